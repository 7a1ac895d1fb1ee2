/-! ===== the two great constructors ===== -/
theorem c_X3 {l : Launch} (hf : l.stackTraces = false) : SpN l kX3_init 1 64 2 63 518 [.ref 0] (MR []) (MR TL3) := by
  refine spN_of hf (by decide +kernel) (Nat.le_of_ble_eq_true rfl) (by intro v hv; simp at hv; subst hv; rfl) rfl ?_
  refine e_aload_0 dX3_init_0 rfl ?_
  refine e_obj dX3_init_1 rfl obX3 ⟨Nat.le_of_ble_eq_true rfl, Nat.le_of_ble_eq_true rfl⟩ (Nat.le_of_ble_eq_true rfl) ?_
  refine e_aload_0 dX3_init_4 rfl ?_
  refine e_bipush (v := nI 8) dX3_init_5 rfl bc_8 ?_
  refine e_newQ (C := RX2) (N := 8) (kd := 9) (t0 := 4) dX3_init_7 rfl (gw_of 72 (by decide +kernel) rfl) (fun _ => rfl) (fun _ h => h.1) (fun cy L => qE rfl (by decide) (by decide) (by decide +kernel) cy L) gN_ao (by decide) (by decide) (by decide) (gN_mon (by decide) (by decide)) (by decide +kernel) ⟨rf_a (by omega), trivial⟩ ⟨ro_a (by omega), ⟨trivial, trivial⟩⟩ ⟨Nat.le_of_ble_eq_true rfl, Nat.le_of_ble_eq_true rfl⟩ ?_
  refine e_putR dX3_init_10 rfl lfX3_11 rfl rfl (fun _ => rfl) (fun _ => rfl) ps_0 (by decide) (by decide) ?_
  refine e_aload_0 dX3_init_13 rfl ?_
  refine e_bipush (v := nI 8) dX3_init_14 rfl bc_8 ?_
  refine e_newQ (C := RX1) (N := 8) (kd := 8) (t0 := 3) dX3_init_16 rfl (gw_of 74 (by decide +kernel) rfl) (fun _ => rfl) (fun _ h => h.2.1) (fun cy L => qE rfl (by decide) (by decide) (by decide +kernel) cy L) gN_ao (by decide) (by decide) (by decide) (gN_mon (by decide) (by decide)) (by decide +kernel) ⟨rf_a (by omega), trivial⟩ ⟨ro_a (by omega), ⟨trivial, trivial⟩⟩ ⟨Nat.le_of_ble_eq_true rfl, Nat.le_of_ble_eq_true rfl⟩ ?_
  refine e_putR dX3_init_19 rfl lfX3_17 rfl rfl (fun _ => rfl) (fun _ => rfl) ps_0 (by decide) (by decide) ?_
  refine e_aload_0 dX3_init_22 rfl ?_
  refine e_iconst (v := nI 3) dX3_init_23 rfl ic_3 ?_
  refine e_newQ (C := RX0) (N := 3) (kd := 7) (t0 := 2) dX3_init_24 rfl (gw_of 76 (by decide +kernel) rfl) (fun _ => rfl) (fun _ h => h.2.2.1) (fun cy L => qE rfl (by decide) (by decide) (by decide +kernel) cy L) gN_ao (by decide) (by decide) (by decide) (gN_mon (by decide) (by decide)) (by decide +kernel) ⟨rf_a (by omega), trivial⟩ ⟨ro_a (by omega), ⟨trivial, trivial⟩⟩ ⟨Nat.le_of_ble_eq_true rfl, Nat.le_of_ble_eq_true rfl⟩ ?_
  refine e_putR dX3_init_27 rfl lfX3_23 rfl rfl (fun _ => rfl) (fun _ => rfl) ps_0 (by decide) (by decide) ?_
  refine e_aload_0 dX3_init_30 rfl ?_
  refine e_bipush (v := nI 32) dX3_init_31 rfl bc_32 ?_
  refine e_newA (ty := .int) (N := 32) (kd := 5) (t0 := 0) (a0 := (32, .inl fun _ => 0)) dX3_init_33 rfl rfl (fun _ => rfl) ac_int (fun _ _ => pmE_int (show psh 4 = (5, 32) from rfl) (Or.inl rfl)) (fun _ => rfl) (fun _ _ h => h) (by decide) (by decide) (by decide) (gN_mon (by decide) (by decide)) (by decide +kernel) ⟨rf_a (by omega), trivial⟩ ⟨ro_a (by omega), ⟨trivial, trivial⟩⟩ ⟨Nat.le_of_ble_eq_true rfl, Nat.le_of_ble_eq_true rfl⟩ ?_
  refine e_putR dX3_init_35 rfl lfX3_27 rfl rfl (fun _ => rfl) (fun _ => rfl) ps_0 (by decide) (by decide) ?_
  refine e_aload_0 dX3_init_38 rfl ?_
  refine e_bipush (v := nI 9) dX3_init_39 rfl bc_9 ?_
  refine e_bipush (v := nI 9) dX3_init_41 rfl bc_9 ?_
  refine e_newM dX3_init_43 rfl (gw_of 78 (by decide +kernel) rfl) ac_int gN_ao (gN_mon (by decide) (by decide)) (by decide +kernel) (by decide +kernel) ⟨rf_a (by omega), trivial⟩ ⟨ro_a (by omega), ⟨trivial, trivial⟩⟩ ⟨Nat.le_of_ble_eq_true rfl, Nat.le_of_ble_eq_true rfl⟩ ?_
  refine e_putR dX3_init_47 rfl lfX3_33 rfl rfl (fun _ => rfl) (fun _ => rfl) ps_0 (by decide) (by decide) ?_
  refine e_iconst (v := nI 0) dX3_init_50 rfl ic_0 ?_
  refine e_istore_1 dX3_init_51 rfl (Nat.le_of_ble_eq_true rfl) rfl ?_
  refine e_iload_1 dX3_init_52 rfl ?_
  refine e_bipush (v := nI 8) dX3_init_53 rfl bc_8 ?_
  refine e_nc_ge_f (a := 0) (b := 8) dX3_init_55 rfl ⟨77, by decide⟩ (by decide) (by decide) (by decide) ?_
  refine e_aload_0 dX3_init_58 rfl ?_
  refine e_getR (b := 1) dX3_init_59 rfl lkX3_11 rfl ps_0 (by decide) (by decide) rfl ?_
  refine e_iload_1 dX3_init_62 rfl ?_
  refine e_newO dX3_init_63 rfl (ci := 2) rfl rfl (by decide) (gw_of 72 (by decide +kernel) rfl) (gw_of 80 (by decide +kernel) rfl) (gw_of 46 (by decide +kernel) rfl) dvX2 (gN_mon (by decide) (by decide)) (by decide +kernel) (by decide +kernel) ⟨trivial, ⟨rf_a (by omega), trivial⟩⟩ ⟨ro_a (by omega), ⟨trivial, trivial⟩⟩ ⟨Nat.le_of_ble_eq_true rfl, Nat.le_of_ble_eq_true rfl⟩ ?_
  refine e_dup dX3_init_66 rfl rfl ?_
  refine e_callC (n' := 17) dX3_init_67 rfl (Or.inr ciX3_36) rfl rfl (c_VS hf (i := 0) (by decide) (by decide +kernel)) ⟨Nat.le_of_ble_eq_true rfl, Nat.le_of_ble_eq_true rfl⟩ ⟨Nat.le_of_ble_eq_true rfl, Nat.le_of_ble_eq_true rfl⟩ (Nat.le_of_ble_eq_true rfl) (gN_mon (by decide) (by decide)) gN_ao ⟨rf_a (by omega), ⟨trivial, ⟨rf_a (by omega), trivial⟩⟩⟩ ⟨ro_a (by omega), ⟨trivial, trivial⟩⟩ rfl rfl ?_
  refine e_aastR (j := 0) (k := 9) (ci := 2) dX3_init_70 rfl rfl (Or.inr (Or.inr ⟨rfl, rfl⟩)) (by decide) rfl (by decide) rfl (by decide) ?_
  refine e_iinc_1 (v := nI 1) dX3_init_71 rfl (Nat.le_of_ble_eq_true rfl) rfl (nI_1 0) ?_
  refine e_goto (tgt := 52) dX3_init_74 (by decide) ?_
  refine e_iload_1 dX3_init_52 rfl ?_
  refine e_bipush (v := nI 8) dX3_init_53 rfl bc_8 ?_
  refine e_nc_ge_f (a := 1) (b := 8) dX3_init_55 rfl ⟨77, by decide⟩ (by decide) (by decide) (by decide) ?_
  refine e_aload_0 dX3_init_58 rfl ?_
  refine e_getR (b := 1) dX3_init_59 rfl lkX3_11 rfl ps_0 (by decide) (by decide) rfl ?_
  refine e_iload_1 dX3_init_62 rfl ?_
  refine e_newO dX3_init_63 rfl (ci := 2) rfl rfl (by decide) (gw_of 72 (by decide +kernel) rfl) (gw_of 80 (by decide +kernel) rfl) (gw_of 46 (by decide +kernel) rfl) dvX2 (gN_mon (by decide) (by decide)) (by decide +kernel) (by decide +kernel) ⟨trivial, ⟨rf_a (by omega), trivial⟩⟩ ⟨ro_a (by omega), ⟨trivial, trivial⟩⟩ ⟨Nat.le_of_ble_eq_true rfl, Nat.le_of_ble_eq_true rfl⟩ ?_
  refine e_dup dX3_init_66 rfl rfl ?_
  refine e_callC (n' := 19) dX3_init_67 rfl (Or.inr ciX3_36) rfl rfl (c_VS hf (i := 1) (by decide) (by decide +kernel)) ⟨Nat.le_of_ble_eq_true rfl, Nat.le_of_ble_eq_true rfl⟩ ⟨Nat.le_of_ble_eq_true rfl, Nat.le_of_ble_eq_true rfl⟩ (Nat.le_of_ble_eq_true rfl) (gN_mon (by decide) (by decide)) gN_ao ⟨rf_a (by omega), ⟨trivial, ⟨rf_a (by omega), trivial⟩⟩⟩ ⟨ro_a (by omega), ⟨trivial, trivial⟩⟩ rfl rfl ?_
  refine e_aastR (j := 1) (k := 9) (ci := 2) dX3_init_70 rfl rfl (Or.inr (Or.inr ⟨rfl, rfl⟩)) (by decide) rfl (by decide) rfl (by decide) ?_
  refine e_iinc_1 (v := nI 2) dX3_init_71 rfl (Nat.le_of_ble_eq_true rfl) rfl (nI_1 1) ?_
  refine e_goto (tgt := 52) dX3_init_74 (by decide) ?_
  refine e_iload_1 dX3_init_52 rfl ?_
  refine e_bipush (v := nI 8) dX3_init_53 rfl bc_8 ?_
  refine e_nc_ge_f (a := 2) (b := 8) dX3_init_55 rfl ⟨77, by decide⟩ (by decide) (by decide) (by decide) ?_
  refine e_aload_0 dX3_init_58 rfl ?_
  refine e_getR (b := 1) dX3_init_59 rfl lkX3_11 rfl ps_0 (by decide) (by decide) rfl ?_
  refine e_iload_1 dX3_init_62 rfl ?_
  refine e_newO dX3_init_63 rfl (ci := 2) rfl rfl (by decide) (gw_of 72 (by decide +kernel) rfl) (gw_of 80 (by decide +kernel) rfl) (gw_of 46 (by decide +kernel) rfl) dvX2 (gN_mon (by decide) (by decide)) (by decide +kernel) (by decide +kernel) ⟨trivial, ⟨rf_a (by omega), trivial⟩⟩ ⟨ro_a (by omega), ⟨trivial, trivial⟩⟩ ⟨Nat.le_of_ble_eq_true rfl, Nat.le_of_ble_eq_true rfl⟩ ?_
  refine e_dup dX3_init_66 rfl rfl ?_
  refine e_callC (n' := 21) dX3_init_67 rfl (Or.inr ciX3_36) rfl rfl (c_VS hf (i := 2) (by decide) (by decide +kernel)) ⟨Nat.le_of_ble_eq_true rfl, Nat.le_of_ble_eq_true rfl⟩ ⟨Nat.le_of_ble_eq_true rfl, Nat.le_of_ble_eq_true rfl⟩ (Nat.le_of_ble_eq_true rfl) (gN_mon (by decide) (by decide)) gN_ao ⟨rf_a (by omega), ⟨trivial, ⟨rf_a (by omega), trivial⟩⟩⟩ ⟨ro_a (by omega), ⟨trivial, trivial⟩⟩ rfl rfl ?_
  refine e_aastR (j := 2) (k := 9) (ci := 2) dX3_init_70 rfl rfl (Or.inr (Or.inr ⟨rfl, rfl⟩)) (by decide) rfl (by decide) rfl (by decide) ?_
  refine e_iinc_1 (v := nI 3) dX3_init_71 rfl (Nat.le_of_ble_eq_true rfl) rfl (nI_1 2) ?_
  refine e_goto (tgt := 52) dX3_init_74 (by decide) ?_
  refine e_iload_1 dX3_init_52 rfl ?_
  refine e_bipush (v := nI 8) dX3_init_53 rfl bc_8 ?_
  refine e_nc_ge_f (a := 3) (b := 8) dX3_init_55 rfl ⟨77, by decide⟩ (by decide) (by decide) (by decide) ?_
  refine e_aload_0 dX3_init_58 rfl ?_
  refine e_getR (b := 1) dX3_init_59 rfl lkX3_11 rfl ps_0 (by decide) (by decide) rfl ?_
  refine e_iload_1 dX3_init_62 rfl ?_
  refine e_newO dX3_init_63 rfl (ci := 2) rfl rfl (by decide) (gw_of 72 (by decide +kernel) rfl) (gw_of 80 (by decide +kernel) rfl) (gw_of 46 (by decide +kernel) rfl) dvX2 (gN_mon (by decide) (by decide)) (by decide +kernel) (by decide +kernel) ⟨trivial, ⟨rf_a (by omega), trivial⟩⟩ ⟨ro_a (by omega), ⟨trivial, trivial⟩⟩ ⟨Nat.le_of_ble_eq_true rfl, Nat.le_of_ble_eq_true rfl⟩ ?_
  refine e_dup dX3_init_66 rfl rfl ?_
  refine e_callC (n' := 23) dX3_init_67 rfl (Or.inr ciX3_36) rfl rfl (c_VS hf (i := 3) (by decide) (by decide +kernel)) ⟨Nat.le_of_ble_eq_true rfl, Nat.le_of_ble_eq_true rfl⟩ ⟨Nat.le_of_ble_eq_true rfl, Nat.le_of_ble_eq_true rfl⟩ (Nat.le_of_ble_eq_true rfl) (gN_mon (by decide) (by decide)) gN_ao ⟨rf_a (by omega), ⟨trivial, ⟨rf_a (by omega), trivial⟩⟩⟩ ⟨ro_a (by omega), ⟨trivial, trivial⟩⟩ rfl rfl ?_
  refine e_aastR (j := 3) (k := 9) (ci := 2) dX3_init_70 rfl rfl (Or.inr (Or.inr ⟨rfl, rfl⟩)) (by decide) rfl (by decide) rfl (by decide) ?_
  refine e_iinc_1 (v := nI 4) dX3_init_71 rfl (Nat.le_of_ble_eq_true rfl) rfl (nI_1 3) ?_
  refine e_goto (tgt := 52) dX3_init_74 (by decide) ?_
  refine e_iload_1 dX3_init_52 rfl ?_
  refine e_bipush (v := nI 8) dX3_init_53 rfl bc_8 ?_
  refine e_nc_ge_f (a := 4) (b := 8) dX3_init_55 rfl ⟨77, by decide⟩ (by decide) (by decide) (by decide) ?_
  refine e_aload_0 dX3_init_58 rfl ?_
  refine e_getR (b := 1) dX3_init_59 rfl lkX3_11 rfl ps_0 (by decide) (by decide) rfl ?_
  refine e_iload_1 dX3_init_62 rfl ?_
  refine e_newO dX3_init_63 rfl (ci := 2) rfl rfl (by decide) (gw_of 72 (by decide +kernel) rfl) (gw_of 80 (by decide +kernel) rfl) (gw_of 46 (by decide +kernel) rfl) dvX2 (gN_mon (by decide) (by decide)) (by decide +kernel) (by decide +kernel) ⟨trivial, ⟨rf_a (by omega), trivial⟩⟩ ⟨ro_a (by omega), ⟨trivial, trivial⟩⟩ ⟨Nat.le_of_ble_eq_true rfl, Nat.le_of_ble_eq_true rfl⟩ ?_
  refine e_dup dX3_init_66 rfl rfl ?_
  refine e_callC (n' := 25) dX3_init_67 rfl (Or.inr ciX3_36) rfl rfl (c_VS hf (i := 4) (by decide) (by decide +kernel)) ⟨Nat.le_of_ble_eq_true rfl, Nat.le_of_ble_eq_true rfl⟩ ⟨Nat.le_of_ble_eq_true rfl, Nat.le_of_ble_eq_true rfl⟩ (Nat.le_of_ble_eq_true rfl) (gN_mon (by decide) (by decide)) gN_ao ⟨rf_a (by omega), ⟨trivial, ⟨rf_a (by omega), trivial⟩⟩⟩ ⟨ro_a (by omega), ⟨trivial, trivial⟩⟩ rfl rfl ?_
  refine e_aastR (j := 4) (k := 9) (ci := 2) dX3_init_70 rfl rfl (Or.inr (Or.inr ⟨rfl, rfl⟩)) (by decide) rfl (by decide) rfl (by decide) ?_
  refine e_iinc_1 (v := nI 5) dX3_init_71 rfl (Nat.le_of_ble_eq_true rfl) rfl (nI_1 4) ?_
  refine e_goto (tgt := 52) dX3_init_74 (by decide) ?_
  refine e_iload_1 dX3_init_52 rfl ?_
  refine e_bipush (v := nI 8) dX3_init_53 rfl bc_8 ?_
  refine e_nc_ge_f (a := 5) (b := 8) dX3_init_55 rfl ⟨77, by decide⟩ (by decide) (by decide) (by decide) ?_
  refine e_aload_0 dX3_init_58 rfl ?_
  refine e_getR (b := 1) dX3_init_59 rfl lkX3_11 rfl ps_0 (by decide) (by decide) rfl ?_
  refine e_iload_1 dX3_init_62 rfl ?_
  refine e_newO dX3_init_63 rfl (ci := 2) rfl rfl (by decide) (gw_of 72 (by decide +kernel) rfl) (gw_of 80 (by decide +kernel) rfl) (gw_of 46 (by decide +kernel) rfl) dvX2 (gN_mon (by decide) (by decide)) (by decide +kernel) (by decide +kernel) ⟨trivial, ⟨rf_a (by omega), trivial⟩⟩ ⟨ro_a (by omega), ⟨trivial, trivial⟩⟩ ⟨Nat.le_of_ble_eq_true rfl, Nat.le_of_ble_eq_true rfl⟩ ?_
  refine e_dup dX3_init_66 rfl rfl ?_
  refine e_callC (n' := 27) dX3_init_67 rfl (Or.inr ciX3_36) rfl rfl (c_VS hf (i := 5) (by decide) (by decide +kernel)) ⟨Nat.le_of_ble_eq_true rfl, Nat.le_of_ble_eq_true rfl⟩ ⟨Nat.le_of_ble_eq_true rfl, Nat.le_of_ble_eq_true rfl⟩ (Nat.le_of_ble_eq_true rfl) (gN_mon (by decide) (by decide)) gN_ao ⟨rf_a (by omega), ⟨trivial, ⟨rf_a (by omega), trivial⟩⟩⟩ ⟨ro_a (by omega), ⟨trivial, trivial⟩⟩ rfl rfl ?_
  refine e_aastR (j := 5) (k := 9) (ci := 2) dX3_init_70 rfl rfl (Or.inr (Or.inr ⟨rfl, rfl⟩)) (by decide) rfl (by decide) rfl (by decide) ?_
  refine e_iinc_1 (v := nI 6) dX3_init_71 rfl (Nat.le_of_ble_eq_true rfl) rfl (nI_1 5) ?_
  refine e_goto (tgt := 52) dX3_init_74 (by decide) ?_
  refine e_iload_1 dX3_init_52 rfl ?_
  refine e_bipush (v := nI 8) dX3_init_53 rfl bc_8 ?_
  refine e_nc_ge_f (a := 6) (b := 8) dX3_init_55 rfl ⟨77, by decide⟩ (by decide) (by decide) (by decide) ?_
  refine e_aload_0 dX3_init_58 rfl ?_
  refine e_getR (b := 1) dX3_init_59 rfl lkX3_11 rfl ps_0 (by decide) (by decide) rfl ?_
  refine e_iload_1 dX3_init_62 rfl ?_
  refine e_newO dX3_init_63 rfl (ci := 2) rfl rfl (by decide) (gw_of 72 (by decide +kernel) rfl) (gw_of 80 (by decide +kernel) rfl) (gw_of 46 (by decide +kernel) rfl) dvX2 (gN_mon (by decide) (by decide)) (by decide +kernel) (by decide +kernel) ⟨trivial, ⟨rf_a (by omega), trivial⟩⟩ ⟨ro_a (by omega), ⟨trivial, trivial⟩⟩ ⟨Nat.le_of_ble_eq_true rfl, Nat.le_of_ble_eq_true rfl⟩ ?_
  refine e_dup dX3_init_66 rfl rfl ?_
  refine e_callC (n' := 29) dX3_init_67 rfl (Or.inr ciX3_36) rfl rfl (c_VS hf (i := 6) (by decide) (by decide +kernel)) ⟨Nat.le_of_ble_eq_true rfl, Nat.le_of_ble_eq_true rfl⟩ ⟨Nat.le_of_ble_eq_true rfl, Nat.le_of_ble_eq_true rfl⟩ (Nat.le_of_ble_eq_true rfl) (gN_mon (by decide) (by decide)) gN_ao ⟨rf_a (by omega), ⟨trivial, ⟨rf_a (by omega), trivial⟩⟩⟩ ⟨ro_a (by omega), ⟨trivial, trivial⟩⟩ rfl rfl ?_
  refine e_aastR (j := 6) (k := 9) (ci := 2) dX3_init_70 rfl rfl (Or.inr (Or.inr ⟨rfl, rfl⟩)) (by decide) rfl (by decide) rfl (by decide) ?_
  refine e_iinc_1 (v := nI 7) dX3_init_71 rfl (Nat.le_of_ble_eq_true rfl) rfl (nI_1 6) ?_
  refine e_goto (tgt := 52) dX3_init_74 (by decide) ?_
  refine e_iload_1 dX3_init_52 rfl ?_
  refine e_bipush (v := nI 8) dX3_init_53 rfl bc_8 ?_
  refine e_nc_ge_f (a := 7) (b := 8) dX3_init_55 rfl ⟨77, by decide⟩ (by decide) (by decide) (by decide) ?_
  refine e_aload_0 dX3_init_58 rfl ?_
  refine e_getR (b := 1) dX3_init_59 rfl lkX3_11 rfl ps_0 (by decide) (by decide) rfl ?_
  refine e_iload_1 dX3_init_62 rfl ?_
  refine e_newO dX3_init_63 rfl (ci := 2) rfl rfl (by decide) (gw_of 72 (by decide +kernel) rfl) (gw_of 80 (by decide +kernel) rfl) (gw_of 46 (by decide +kernel) rfl) dvX2 (gN_mon (by decide) (by decide)) (by decide +kernel) (by decide +kernel) ⟨trivial, ⟨rf_a (by omega), trivial⟩⟩ ⟨ro_a (by omega), ⟨trivial, trivial⟩⟩ ⟨Nat.le_of_ble_eq_true rfl, Nat.le_of_ble_eq_true rfl⟩ ?_
  refine e_dup dX3_init_66 rfl rfl ?_
  refine e_callC (n' := 31) dX3_init_67 rfl (Or.inr ciX3_36) rfl rfl (c_VS hf (i := 7) (by decide) (by decide +kernel)) ⟨Nat.le_of_ble_eq_true rfl, Nat.le_of_ble_eq_true rfl⟩ ⟨Nat.le_of_ble_eq_true rfl, Nat.le_of_ble_eq_true rfl⟩ (Nat.le_of_ble_eq_true rfl) (gN_mon (by decide) (by decide)) gN_ao ⟨rf_a (by omega), ⟨trivial, ⟨rf_a (by omega), trivial⟩⟩⟩ ⟨ro_a (by omega), ⟨trivial, trivial⟩⟩ rfl rfl ?_
  refine e_aastR (j := 7) (k := 9) (ci := 2) dX3_init_70 rfl rfl (Or.inr (Or.inr ⟨rfl, rfl⟩)) (by decide) rfl (by decide) rfl (by decide) ?_
  refine e_iinc_1 (v := nI 8) dX3_init_71 rfl (Nat.le_of_ble_eq_true rfl) rfl (nI_1 7) ?_
  refine e_goto (tgt := 52) dX3_init_74 (by decide) ?_
  refine e_iload_1 dX3_init_52 rfl ?_
  refine e_bipush (v := nI 8) dX3_init_53 rfl bc_8 ?_
  refine e_nc_ge_t (a := 8) (b := 8) (tgt := 77) dX3_init_55 (by decide) (by decide) (by decide) (by decide) ?_
  refine e_iconst (v := nI 0) dX3_init_77 rfl ic_0 ?_
  refine e_istore_1 dX3_init_78 rfl (Nat.le_of_ble_eq_true rfl) rfl ?_
  refine e_iload_1 dX3_init_79 rfl ?_
  refine e_bipush (v := nI 8) dX3_init_80 rfl bc_8 ?_
  refine e_nc_ge_f (a := 0) (b := 8) dX3_init_82 rfl ⟨104, by decide⟩ (by decide) (by decide) (by decide) ?_
  refine e_aload_0 dX3_init_85 rfl ?_
  refine e_getR (b := 2) dX3_init_86 rfl lkX3_17 rfl ps_0 (by decide) (by decide) rfl ?_
  refine e_iload_1 dX3_init_89 rfl ?_
  refine e_newO dX3_init_90 rfl (ci := 1) rfl rfl (by decide) (gw_of 74 (by decide +kernel) rfl) (gw_of 98 (by decide +kernel) rfl) (gw_of 47 (by decide +kernel) rfl) dvX1 (gN_mon (by decide) (by decide)) (by decide +kernel) (by decide +kernel) ⟨trivial, ⟨rf_a (by omega), trivial⟩⟩ ⟨ro_a (by omega), ⟨trivial, trivial⟩⟩ ⟨Nat.le_of_ble_eq_true rfl, Nat.le_of_ble_eq_true rfl⟩ ?_
  refine e_dup dX3_init_93 rfl rfl ?_
  refine e_callC (n' := 34) dX3_init_94 rfl (Or.inr ciX3_37) rfl rfl (c_RU hf (i := 0) (by decide) (by decide +kernel)) ⟨Nat.le_of_ble_eq_true rfl, Nat.le_of_ble_eq_true rfl⟩ ⟨Nat.le_of_ble_eq_true rfl, Nat.le_of_ble_eq_true rfl⟩ (Nat.le_of_ble_eq_true rfl) (gN_mon (by decide) (by decide)) gN_ao ⟨rf_a (by omega), ⟨trivial, ⟨rf_a (by omega), trivial⟩⟩⟩ ⟨ro_a (by omega), ⟨trivial, trivial⟩⟩ rfl rfl ?_
  refine e_aastR (j := 0) (k := 8) (ci := 1) dX3_init_97 rfl rfl (Or.inr (Or.inl ⟨rfl, rfl⟩)) (by decide) rfl (by decide) rfl (by decide) ?_
  refine e_iinc_1 (v := nI 1) dX3_init_98 rfl (Nat.le_of_ble_eq_true rfl) rfl (nI_1 0) ?_
  refine e_goto (tgt := 79) dX3_init_101 (by decide) ?_
  refine e_iload_1 dX3_init_79 rfl ?_
  refine e_bipush (v := nI 8) dX3_init_80 rfl bc_8 ?_
  refine e_nc_ge_f (a := 1) (b := 8) dX3_init_82 rfl ⟨104, by decide⟩ (by decide) (by decide) (by decide) ?_
  refine e_aload_0 dX3_init_85 rfl ?_
  refine e_getR (b := 2) dX3_init_86 rfl lkX3_17 rfl ps_0 (by decide) (by decide) rfl ?_
  refine e_iload_1 dX3_init_89 rfl ?_
  refine e_newO dX3_init_90 rfl (ci := 1) rfl rfl (by decide) (gw_of 74 (by decide +kernel) rfl) (gw_of 98 (by decide +kernel) rfl) (gw_of 47 (by decide +kernel) rfl) dvX1 (gN_mon (by decide) (by decide)) (by decide +kernel) (by decide +kernel) ⟨trivial, ⟨rf_a (by omega), trivial⟩⟩ ⟨ro_a (by omega), ⟨trivial, trivial⟩⟩ ⟨Nat.le_of_ble_eq_true rfl, Nat.le_of_ble_eq_true rfl⟩ ?_
  refine e_dup dX3_init_93 rfl rfl ?_
  refine e_callC (n' := 37) dX3_init_94 rfl (Or.inr ciX3_37) rfl rfl (c_RU hf (i := 1) (by decide) (by decide +kernel)) ⟨Nat.le_of_ble_eq_true rfl, Nat.le_of_ble_eq_true rfl⟩ ⟨Nat.le_of_ble_eq_true rfl, Nat.le_of_ble_eq_true rfl⟩ (Nat.le_of_ble_eq_true rfl) (gN_mon (by decide) (by decide)) gN_ao ⟨rf_a (by omega), ⟨trivial, ⟨rf_a (by omega), trivial⟩⟩⟩ ⟨ro_a (by omega), ⟨trivial, trivial⟩⟩ rfl rfl ?_
  refine e_aastR (j := 1) (k := 8) (ci := 1) dX3_init_97 rfl rfl (Or.inr (Or.inl ⟨rfl, rfl⟩)) (by decide) rfl (by decide) rfl (by decide) ?_
  refine e_iinc_1 (v := nI 2) dX3_init_98 rfl (Nat.le_of_ble_eq_true rfl) rfl (nI_1 1) ?_
  refine e_goto (tgt := 79) dX3_init_101 (by decide) ?_
  refine e_iload_1 dX3_init_79 rfl ?_
  refine e_bipush (v := nI 8) dX3_init_80 rfl bc_8 ?_
  refine e_nc_ge_f (a := 2) (b := 8) dX3_init_82 rfl ⟨104, by decide⟩ (by decide) (by decide) (by decide) ?_
  refine e_aload_0 dX3_init_85 rfl ?_
  refine e_getR (b := 2) dX3_init_86 rfl lkX3_17 rfl ps_0 (by decide) (by decide) rfl ?_
  refine e_iload_1 dX3_init_89 rfl ?_
  refine e_newO dX3_init_90 rfl (ci := 1) rfl rfl (by decide) (gw_of 74 (by decide +kernel) rfl) (gw_of 98 (by decide +kernel) rfl) (gw_of 47 (by decide +kernel) rfl) dvX1 (gN_mon (by decide) (by decide)) (by decide +kernel) (by decide +kernel) ⟨trivial, ⟨rf_a (by omega), trivial⟩⟩ ⟨ro_a (by omega), ⟨trivial, trivial⟩⟩ ⟨Nat.le_of_ble_eq_true rfl, Nat.le_of_ble_eq_true rfl⟩ ?_
  refine e_dup dX3_init_93 rfl rfl ?_
  refine e_callC (n' := 40) dX3_init_94 rfl (Or.inr ciX3_37) rfl rfl (c_RU hf (i := 2) (by decide) (by decide +kernel)) ⟨Nat.le_of_ble_eq_true rfl, Nat.le_of_ble_eq_true rfl⟩ ⟨Nat.le_of_ble_eq_true rfl, Nat.le_of_ble_eq_true rfl⟩ (Nat.le_of_ble_eq_true rfl) (gN_mon (by decide) (by decide)) gN_ao ⟨rf_a (by omega), ⟨trivial, ⟨rf_a (by omega), trivial⟩⟩⟩ ⟨ro_a (by omega), ⟨trivial, trivial⟩⟩ rfl rfl ?_
  refine e_aastR (j := 2) (k := 8) (ci := 1) dX3_init_97 rfl rfl (Or.inr (Or.inl ⟨rfl, rfl⟩)) (by decide) rfl (by decide) rfl (by decide) ?_
  refine e_iinc_1 (v := nI 3) dX3_init_98 rfl (Nat.le_of_ble_eq_true rfl) rfl (nI_1 2) ?_
  refine e_goto (tgt := 79) dX3_init_101 (by decide) ?_
  refine e_iload_1 dX3_init_79 rfl ?_
  refine e_bipush (v := nI 8) dX3_init_80 rfl bc_8 ?_
  refine e_nc_ge_f (a := 3) (b := 8) dX3_init_82 rfl ⟨104, by decide⟩ (by decide) (by decide) (by decide) ?_
  refine e_aload_0 dX3_init_85 rfl ?_
  refine e_getR (b := 2) dX3_init_86 rfl lkX3_17 rfl ps_0 (by decide) (by decide) rfl ?_
  refine e_iload_1 dX3_init_89 rfl ?_
  refine e_newO dX3_init_90 rfl (ci := 1) rfl rfl (by decide) (gw_of 74 (by decide +kernel) rfl) (gw_of 98 (by decide +kernel) rfl) (gw_of 47 (by decide +kernel) rfl) dvX1 (gN_mon (by decide) (by decide)) (by decide +kernel) (by decide +kernel) ⟨trivial, ⟨rf_a (by omega), trivial⟩⟩ ⟨ro_a (by omega), ⟨trivial, trivial⟩⟩ ⟨Nat.le_of_ble_eq_true rfl, Nat.le_of_ble_eq_true rfl⟩ ?_
  refine e_dup dX3_init_93 rfl rfl ?_
  refine e_callC (n' := 43) dX3_init_94 rfl (Or.inr ciX3_37) rfl rfl (c_RU hf (i := 3) (by decide) (by decide +kernel)) ⟨Nat.le_of_ble_eq_true rfl, Nat.le_of_ble_eq_true rfl⟩ ⟨Nat.le_of_ble_eq_true rfl, Nat.le_of_ble_eq_true rfl⟩ (Nat.le_of_ble_eq_true rfl) (gN_mon (by decide) (by decide)) gN_ao ⟨rf_a (by omega), ⟨trivial, ⟨rf_a (by omega), trivial⟩⟩⟩ ⟨ro_a (by omega), ⟨trivial, trivial⟩⟩ rfl rfl ?_
  refine e_aastR (j := 3) (k := 8) (ci := 1) dX3_init_97 rfl rfl (Or.inr (Or.inl ⟨rfl, rfl⟩)) (by decide) rfl (by decide) rfl (by decide) ?_
  refine e_iinc_1 (v := nI 4) dX3_init_98 rfl (Nat.le_of_ble_eq_true rfl) rfl (nI_1 3) ?_
  refine e_goto (tgt := 79) dX3_init_101 (by decide) ?_
  refine e_iload_1 dX3_init_79 rfl ?_
  refine e_bipush (v := nI 8) dX3_init_80 rfl bc_8 ?_
  refine e_nc_ge_f (a := 4) (b := 8) dX3_init_82 rfl ⟨104, by decide⟩ (by decide) (by decide) (by decide) ?_
  refine e_aload_0 dX3_init_85 rfl ?_
  refine e_getR (b := 2) dX3_init_86 rfl lkX3_17 rfl ps_0 (by decide) (by decide) rfl ?_
  refine e_iload_1 dX3_init_89 rfl ?_
  refine e_newO dX3_init_90 rfl (ci := 1) rfl rfl (by decide) (gw_of 74 (by decide +kernel) rfl) (gw_of 98 (by decide +kernel) rfl) (gw_of 47 (by decide +kernel) rfl) dvX1 (gN_mon (by decide) (by decide)) (by decide +kernel) (by decide +kernel) ⟨trivial, ⟨rf_a (by omega), trivial⟩⟩ ⟨ro_a (by omega), ⟨trivial, trivial⟩⟩ ⟨Nat.le_of_ble_eq_true rfl, Nat.le_of_ble_eq_true rfl⟩ ?_
  refine e_dup dX3_init_93 rfl rfl ?_
  refine e_callC (n' := 46) dX3_init_94 rfl (Or.inr ciX3_37) rfl rfl (c_RU hf (i := 4) (by decide) (by decide +kernel)) ⟨Nat.le_of_ble_eq_true rfl, Nat.le_of_ble_eq_true rfl⟩ ⟨Nat.le_of_ble_eq_true rfl, Nat.le_of_ble_eq_true rfl⟩ (Nat.le_of_ble_eq_true rfl) (gN_mon (by decide) (by decide)) gN_ao ⟨rf_a (by omega), ⟨trivial, ⟨rf_a (by omega), trivial⟩⟩⟩ ⟨ro_a (by omega), ⟨trivial, trivial⟩⟩ rfl rfl ?_
  refine e_aastR (j := 4) (k := 8) (ci := 1) dX3_init_97 rfl rfl (Or.inr (Or.inl ⟨rfl, rfl⟩)) (by decide) rfl (by decide) rfl (by decide) ?_
  refine e_iinc_1 (v := nI 5) dX3_init_98 rfl (Nat.le_of_ble_eq_true rfl) rfl (nI_1 4) ?_
  refine e_goto (tgt := 79) dX3_init_101 (by decide) ?_
  refine e_iload_1 dX3_init_79 rfl ?_
  refine e_bipush (v := nI 8) dX3_init_80 rfl bc_8 ?_
  refine e_nc_ge_f (a := 5) (b := 8) dX3_init_82 rfl ⟨104, by decide⟩ (by decide) (by decide) (by decide) ?_
  refine e_aload_0 dX3_init_85 rfl ?_
  refine e_getR (b := 2) dX3_init_86 rfl lkX3_17 rfl ps_0 (by decide) (by decide) rfl ?_
  refine e_iload_1 dX3_init_89 rfl ?_
  refine e_newO dX3_init_90 rfl (ci := 1) rfl rfl (by decide) (gw_of 74 (by decide +kernel) rfl) (gw_of 98 (by decide +kernel) rfl) (gw_of 47 (by decide +kernel) rfl) dvX1 (gN_mon (by decide) (by decide)) (by decide +kernel) (by decide +kernel) ⟨trivial, ⟨rf_a (by omega), trivial⟩⟩ ⟨ro_a (by omega), ⟨trivial, trivial⟩⟩ ⟨Nat.le_of_ble_eq_true rfl, Nat.le_of_ble_eq_true rfl⟩ ?_
  refine e_dup dX3_init_93 rfl rfl ?_
  refine e_callC (n' := 49) dX3_init_94 rfl (Or.inr ciX3_37) rfl rfl (c_RU hf (i := 5) (by decide) (by decide +kernel)) ⟨Nat.le_of_ble_eq_true rfl, Nat.le_of_ble_eq_true rfl⟩ ⟨Nat.le_of_ble_eq_true rfl, Nat.le_of_ble_eq_true rfl⟩ (Nat.le_of_ble_eq_true rfl) (gN_mon (by decide) (by decide)) gN_ao ⟨rf_a (by omega), ⟨trivial, ⟨rf_a (by omega), trivial⟩⟩⟩ ⟨ro_a (by omega), ⟨trivial, trivial⟩⟩ rfl rfl ?_
  refine e_aastR (j := 5) (k := 8) (ci := 1) dX3_init_97 rfl rfl (Or.inr (Or.inl ⟨rfl, rfl⟩)) (by decide) rfl (by decide) rfl (by decide) ?_
  refine e_iinc_1 (v := nI 6) dX3_init_98 rfl (Nat.le_of_ble_eq_true rfl) rfl (nI_1 5) ?_
  refine e_goto (tgt := 79) dX3_init_101 (by decide) ?_
  refine e_iload_1 dX3_init_79 rfl ?_
  refine e_bipush (v := nI 8) dX3_init_80 rfl bc_8 ?_
  refine e_nc_ge_f (a := 6) (b := 8) dX3_init_82 rfl ⟨104, by decide⟩ (by decide) (by decide) (by decide) ?_
  refine e_aload_0 dX3_init_85 rfl ?_
  refine e_getR (b := 2) dX3_init_86 rfl lkX3_17 rfl ps_0 (by decide) (by decide) rfl ?_
  refine e_iload_1 dX3_init_89 rfl ?_
  refine e_newO dX3_init_90 rfl (ci := 1) rfl rfl (by decide) (gw_of 74 (by decide +kernel) rfl) (gw_of 98 (by decide +kernel) rfl) (gw_of 47 (by decide +kernel) rfl) dvX1 (gN_mon (by decide) (by decide)) (by decide +kernel) (by decide +kernel) ⟨trivial, ⟨rf_a (by omega), trivial⟩⟩ ⟨ro_a (by omega), ⟨trivial, trivial⟩⟩ ⟨Nat.le_of_ble_eq_true rfl, Nat.le_of_ble_eq_true rfl⟩ ?_
  refine e_dup dX3_init_93 rfl rfl ?_
  refine e_callC (n' := 52) dX3_init_94 rfl (Or.inr ciX3_37) rfl rfl (c_RU hf (i := 6) (by decide) (by decide +kernel)) ⟨Nat.le_of_ble_eq_true rfl, Nat.le_of_ble_eq_true rfl⟩ ⟨Nat.le_of_ble_eq_true rfl, Nat.le_of_ble_eq_true rfl⟩ (Nat.le_of_ble_eq_true rfl) (gN_mon (by decide) (by decide)) gN_ao ⟨rf_a (by omega), ⟨trivial, ⟨rf_a (by omega), trivial⟩⟩⟩ ⟨ro_a (by omega), ⟨trivial, trivial⟩⟩ rfl rfl ?_
  refine e_aastR (j := 6) (k := 8) (ci := 1) dX3_init_97 rfl rfl (Or.inr (Or.inl ⟨rfl, rfl⟩)) (by decide) rfl (by decide) rfl (by decide) ?_
  refine e_iinc_1 (v := nI 7) dX3_init_98 rfl (Nat.le_of_ble_eq_true rfl) rfl (nI_1 6) ?_
  refine e_goto (tgt := 79) dX3_init_101 (by decide) ?_
  refine e_iload_1 dX3_init_79 rfl ?_
  refine e_bipush (v := nI 8) dX3_init_80 rfl bc_8 ?_
  refine e_nc_ge_f (a := 7) (b := 8) dX3_init_82 rfl ⟨104, by decide⟩ (by decide) (by decide) (by decide) ?_
  refine e_aload_0 dX3_init_85 rfl ?_
  refine e_getR (b := 2) dX3_init_86 rfl lkX3_17 rfl ps_0 (by decide) (by decide) rfl ?_
  refine e_iload_1 dX3_init_89 rfl ?_
  refine e_newO dX3_init_90 rfl (ci := 1) rfl rfl (by decide) (gw_of 74 (by decide +kernel) rfl) (gw_of 98 (by decide +kernel) rfl) (gw_of 47 (by decide +kernel) rfl) dvX1 (gN_mon (by decide) (by decide)) (by decide +kernel) (by decide +kernel) ⟨trivial, ⟨rf_a (by omega), trivial⟩⟩ ⟨ro_a (by omega), ⟨trivial, trivial⟩⟩ ⟨Nat.le_of_ble_eq_true rfl, Nat.le_of_ble_eq_true rfl⟩ ?_
  refine e_dup dX3_init_93 rfl rfl ?_
  refine e_callC (n' := 55) dX3_init_94 rfl (Or.inr ciX3_37) rfl rfl (c_RU hf (i := 7) (by decide) (by decide +kernel)) ⟨Nat.le_of_ble_eq_true rfl, Nat.le_of_ble_eq_true rfl⟩ ⟨Nat.le_of_ble_eq_true rfl, Nat.le_of_ble_eq_true rfl⟩ (Nat.le_of_ble_eq_true rfl) (gN_mon (by decide) (by decide)) gN_ao ⟨rf_a (by omega), ⟨trivial, ⟨rf_a (by omega), trivial⟩⟩⟩ ⟨ro_a (by omega), ⟨trivial, trivial⟩⟩ rfl rfl ?_
  refine e_aastR (j := 7) (k := 8) (ci := 1) dX3_init_97 rfl rfl (Or.inr (Or.inl ⟨rfl, rfl⟩)) (by decide) rfl (by decide) rfl (by decide) ?_
  refine e_iinc_1 (v := nI 8) dX3_init_98 rfl (Nat.le_of_ble_eq_true rfl) rfl (nI_1 7) ?_
  refine e_goto (tgt := 79) dX3_init_101 (by decide) ?_
  refine e_iload_1 dX3_init_79 rfl ?_
  refine e_bipush (v := nI 8) dX3_init_80 rfl bc_8 ?_
  refine e_nc_ge_t (a := 8) (b := 8) (tgt := 104) dX3_init_82 (by decide) (by decide) (by decide) (by decide) ?_
  refine e_iconst (v := nI 0) dX3_init_104 rfl ic_0 ?_
  refine e_istore_1 dX3_init_105 rfl (Nat.le_of_ble_eq_true rfl) rfl ?_
  refine e_iload_1 dX3_init_106 rfl ?_
  refine e_iconst (v := nI 3) dX3_init_107 rfl ic_3 ?_
  refine e_nc_ge_f (a := 0) (b := 3) dX3_init_108 rfl ⟨130, by decide⟩ (by decide) (by decide) (by decide) ?_
  refine e_aload_0 dX3_init_111 rfl ?_
  refine e_getR (b := 3) dX3_init_112 rfl lkX3_23 rfl ps_0 (by decide) (by decide) rfl ?_
  refine e_iload_1 dX3_init_115 rfl ?_
  refine e_newO dX3_init_116 rfl (ci := 0) rfl rfl (by decide) (gw_of 76 (by decide +kernel) rfl) (gw_of 144 (by decide +kernel) rfl) (gw_of 48 (by decide +kernel) rfl) dvX0 (gN_mon (by decide) (by decide)) (by decide +kernel) (by decide +kernel) ⟨trivial, ⟨rf_a (by omega), trivial⟩⟩ ⟨ro_a (by omega), ⟨trivial, trivial⟩⟩ ⟨Nat.le_of_ble_eq_true rfl, Nat.le_of_ble_eq_true rfl⟩ ?_
  refine e_dup dX3_init_119 rfl rfl ?_
  refine e_callC (n' := 58) dX3_init_120 rfl (Or.inr ciX3_38) rfl rfl (c_GR hf (i := 0) (by decide) (by decide +kernel)) ⟨Nat.le_of_ble_eq_true rfl, Nat.le_of_ble_eq_true rfl⟩ ⟨Nat.le_of_ble_eq_true rfl, Nat.le_of_ble_eq_true rfl⟩ (Nat.le_of_ble_eq_true rfl) (gN_mon (by decide) (by decide)) gN_ao ⟨rf_a (by omega), ⟨trivial, ⟨rf_a (by omega), trivial⟩⟩⟩ ⟨ro_a (by omega), ⟨trivial, trivial⟩⟩ rfl rfl ?_
  refine e_aastR (j := 0) (k := 7) (ci := 0) dX3_init_123 rfl rfl (Or.inl ⟨rfl, rfl⟩) (by decide) rfl (by decide) rfl (by decide) ?_
  refine e_iinc_1 (v := nI 1) dX3_init_124 rfl (Nat.le_of_ble_eq_true rfl) rfl (nI_1 0) ?_
  refine e_goto (tgt := 106) dX3_init_127 (by decide) ?_
  refine e_iload_1 dX3_init_106 rfl ?_
  refine e_iconst (v := nI 3) dX3_init_107 rfl ic_3 ?_
  refine e_nc_ge_f (a := 1) (b := 3) dX3_init_108 rfl ⟨130, by decide⟩ (by decide) (by decide) (by decide) ?_
  refine e_aload_0 dX3_init_111 rfl ?_
  refine e_getR (b := 3) dX3_init_112 rfl lkX3_23 rfl ps_0 (by decide) (by decide) rfl ?_
  refine e_iload_1 dX3_init_115 rfl ?_
  refine e_newO dX3_init_116 rfl (ci := 0) rfl rfl (by decide) (gw_of 76 (by decide +kernel) rfl) (gw_of 144 (by decide +kernel) rfl) (gw_of 48 (by decide +kernel) rfl) dvX0 (gN_mon (by decide) (by decide)) (by decide +kernel) (by decide +kernel) ⟨trivial, ⟨rf_a (by omega), trivial⟩⟩ ⟨ro_a (by omega), ⟨trivial, trivial⟩⟩ ⟨Nat.le_of_ble_eq_true rfl, Nat.le_of_ble_eq_true rfl⟩ ?_
  refine e_dup dX3_init_119 rfl rfl ?_
  refine e_callC (n' := 61) dX3_init_120 rfl (Or.inr ciX3_38) rfl rfl (c_GR hf (i := 1) (by decide) (by decide +kernel)) ⟨Nat.le_of_ble_eq_true rfl, Nat.le_of_ble_eq_true rfl⟩ ⟨Nat.le_of_ble_eq_true rfl, Nat.le_of_ble_eq_true rfl⟩ (Nat.le_of_ble_eq_true rfl) (gN_mon (by decide) (by decide)) gN_ao ⟨rf_a (by omega), ⟨trivial, ⟨rf_a (by omega), trivial⟩⟩⟩ ⟨ro_a (by omega), ⟨trivial, trivial⟩⟩ rfl rfl ?_
  refine e_aastR (j := 1) (k := 7) (ci := 0) dX3_init_123 rfl rfl (Or.inl ⟨rfl, rfl⟩) (by decide) rfl (by decide) rfl (by decide) ?_
  refine e_iinc_1 (v := nI 2) dX3_init_124 rfl (Nat.le_of_ble_eq_true rfl) rfl (nI_1 1) ?_
  refine e_goto (tgt := 106) dX3_init_127 (by decide) ?_
  refine e_iload_1 dX3_init_106 rfl ?_
  refine e_iconst (v := nI 3) dX3_init_107 rfl ic_3 ?_
  refine e_nc_ge_f (a := 2) (b := 3) dX3_init_108 rfl ⟨130, by decide⟩ (by decide) (by decide) (by decide) ?_
  refine e_aload_0 dX3_init_111 rfl ?_
  refine e_getR (b := 3) dX3_init_112 rfl lkX3_23 rfl ps_0 (by decide) (by decide) rfl ?_
  refine e_iload_1 dX3_init_115 rfl ?_
  refine e_newO dX3_init_116 rfl (ci := 0) rfl rfl (by decide) (gw_of 76 (by decide +kernel) rfl) (gw_of 144 (by decide +kernel) rfl) (gw_of 48 (by decide +kernel) rfl) dvX0 (gN_mon (by decide) (by decide)) (by decide +kernel) (by decide +kernel) ⟨trivial, ⟨rf_a (by omega), trivial⟩⟩ ⟨ro_a (by omega), ⟨trivial, trivial⟩⟩ ⟨Nat.le_of_ble_eq_true rfl, Nat.le_of_ble_eq_true rfl⟩ ?_
  refine e_dup dX3_init_119 rfl rfl ?_
  refine e_callC (n' := 64) dX3_init_120 rfl (Or.inr ciX3_38) rfl rfl (c_GR hf (i := 2) (by decide) (by decide +kernel)) ⟨Nat.le_of_ble_eq_true rfl, Nat.le_of_ble_eq_true rfl⟩ ⟨Nat.le_of_ble_eq_true rfl, Nat.le_of_ble_eq_true rfl⟩ (Nat.le_of_ble_eq_true rfl) (gN_mon (by decide) (by decide)) gN_ao ⟨rf_a (by omega), ⟨trivial, ⟨rf_a (by omega), trivial⟩⟩⟩ ⟨ro_a (by omega), ⟨trivial, trivial⟩⟩ rfl rfl ?_
  refine e_aastR (j := 2) (k := 7) (ci := 0) dX3_init_123 rfl rfl (Or.inl ⟨rfl, rfl⟩) (by decide) rfl (by decide) rfl (by decide) ?_
  refine e_iinc_1 (v := nI 3) dX3_init_124 rfl (Nat.le_of_ble_eq_true rfl) rfl (nI_1 2) ?_
  refine e_goto (tgt := 106) dX3_init_127 (by decide) ?_
  refine e_iload_1 dX3_init_106 rfl ?_
  refine e_iconst (v := nI 3) dX3_init_107 rfl ic_3 ?_
  refine e_nc_ge_t (a := 3) (b := 3) (tgt := 130) dX3_init_108 (by decide) (by decide) (by decide) (by decide) ?_
  exact e_vretN dX3_init_130 rfl (Nat.le_of_ble_eq_true rfl) (Nat.le_of_ble_eq_true rfl) rfl
abbrev TL4 : List (Nat × Nat × Nat) := [(64, 23, 83), (64, 22, 82), (64, 21, 81), (64, 20, 80), (64, 19, 79), (64, 18, 78), (64, 17, 77), (64, 16, 76), (64, 15, 75), (64, 14, 74), (64, 13, 73), (64, 12, 72), (64, 11, 71), (64, 10, 70), (64, 7, 69), (64, 6, 68), (64, 5, 67), (64, 4, 66), (64, 3, 65)] ++ TL3
theorem c_X4 {l : Launch} (hf : l.stackTraces = false) : SpN l kX4_init 65 84 1 19 394 [.ref 64] (MR TL3) (MR TL4) := by
  refine spN_of hf (by decide +kernel) (Nat.le_of_ble_eq_true rfl) (by intro v hv; simp at hv; subst hv; rfl) rfl ?_
  refine e_aload_0 dX4_init_0 rfl ?_
  refine e_obj dX4_init_1 rfl obX4 ⟨Nat.le_of_ble_eq_true rfl, Nat.le_of_ble_eq_true rfl⟩ (Nat.le_of_ble_eq_true rfl) ?_
  refine e_aload_0 dX4_init_4 rfl ?_
  refine e_bipush (v := nI 8) dX4_init_5 rfl bc_8 ?_
  refine e_newA (ty := .int) (N := 8) (kd := 5) (t0 := 0) (a0 := (8, .inl fun _ => 0)) dX4_init_7 rfl rfl (fun _ => rfl) ac_int (fun _ _ => pmE_int (show psh 65 = (5, 8) from rfl) (Or.inl rfl)) (fun _ => rfl) (fun _ _ h => h) (by decide) (by decide) (by decide) (gN_mon (by decide) (by decide)) (by decide +kernel) ⟨rf_a (by omega), trivial⟩ ⟨ro_a (by omega), trivial⟩ ⟨Nat.le_of_ble_eq_true rfl, Nat.le_of_ble_eq_true rfl⟩ ?_
  refine e_putR dX4_init_9 rfl lfX4_7 rfl rfl (fun _ => rfl) (fun _ => rfl) ps_64 (by decide) (by decide) ?_
  refine e_aload_0 dX4_init_12 rfl ?_
  refine e_bipush (v := nI 24) dX4_init_13 rfl bc_24 ?_
  refine e_newA (ty := .int) (N := 24) (kd := 5) (t0 := 0) (a0 := (24, .inl fun _ => 0)) dX4_init_15 rfl rfl (fun _ => rfl) ac_int (fun _ _ => pmE_int (show psh 66 = (5, 24) from rfl) (Or.inl rfl)) (fun _ => rfl) (fun _ _ h => h) (by decide) (by decide) (by decide) (gN_mon (by decide) (by decide)) (by decide +kernel) ⟨rf_a (by omega), trivial⟩ ⟨ro_a (by omega), trivial⟩ ⟨Nat.le_of_ble_eq_true rfl, Nat.le_of_ble_eq_true rfl⟩ ?_
  refine e_putR dX4_init_17 rfl lfX4_13 rfl rfl (fun _ => rfl) (fun _ => rfl) ps_64 (by decide) (by decide) ?_
  refine e_aload_0 dX4_init_20 rfl ?_
  refine e_bipush (v := nI 24) dX4_init_21 rfl bc_24 ?_
  refine e_newA (ty := .int) (N := 24) (kd := 5) (t0 := 0) (a0 := (24, .inl fun _ => 0)) dX4_init_23 rfl rfl (fun _ => rfl) ac_int (fun _ _ => pmE_int (show psh 67 = (5, 24) from rfl) (Or.inl rfl)) (fun _ => rfl) (fun _ _ h => h) (by decide) (by decide) (by decide) (gN_mon (by decide) (by decide)) (by decide +kernel) ⟨rf_a (by omega), trivial⟩ ⟨ro_a (by omega), trivial⟩ ⟨Nat.le_of_ble_eq_true rfl, Nat.le_of_ble_eq_true rfl⟩ ?_
  refine e_putR dX4_init_25 rfl lfX4_16 rfl rfl (fun _ => rfl) (fun _ => rfl) ps_64 (by decide) (by decide) ?_
  refine e_aload_0 dX4_init_28 rfl ?_
  refine e_bipush (v := nI 8) dX4_init_29 rfl bc_8 ?_
  refine e_newA (ty := .int) (N := 8) (kd := 5) (t0 := 0) (a0 := (8, .inl fun _ => 0)) dX4_init_31 rfl rfl (fun _ => rfl) ac_int (fun _ _ => pmE_int (show psh 68 = (5, 8) from rfl) (Or.inl rfl)) (fun _ => rfl) (fun _ _ h => h) (by decide) (by decide) (by decide) (gN_mon (by decide) (by decide)) (by decide +kernel) ⟨rf_a (by omega), trivial⟩ ⟨ro_a (by omega), trivial⟩ ⟨Nat.le_of_ble_eq_true rfl, Nat.le_of_ble_eq_true rfl⟩ ?_
  refine e_putR dX4_init_33 rfl lfX4_19 rfl rfl (fun _ => rfl) (fun _ => rfl) ps_64 (by decide) (by decide) ?_
  refine e_aload_0 dX4_init_36 rfl ?_
  refine e_bipush (v := nI 16) dX4_init_37 rfl bc_16 ?_
  refine e_newA (ty := .int) (N := 16) (kd := 5) (t0 := 0) (a0 := (16, .inl fun _ => 0)) dX4_init_39 rfl rfl (fun _ => rfl) ac_int (fun _ _ => pmE_int (show psh 69 = (5, 16) from rfl) (Or.inl rfl)) (fun _ => rfl) (fun _ _ h => h) (by decide) (by decide) (by decide) (gN_mon (by decide) (by decide)) (by decide +kernel) ⟨rf_a (by omega), trivial⟩ ⟨ro_a (by omega), trivial⟩ ⟨Nat.le_of_ble_eq_true rfl, Nat.le_of_ble_eq_true rfl⟩ ?_
  refine e_putR dX4_init_41 rfl lfX4_22 rfl rfl (fun _ => rfl) (fun _ => rfl) ps_64 (by decide) (by decide) ?_
  refine e_aload_0 dX4_init_44 rfl ?_
  refine e_bipush (v := nI 8) dX4_init_45 rfl bc_8 ?_
  refine e_newA (ty := .int) (N := 8) (kd := 5) (t0 := 0) (a0 := (8, .inl fun _ => 0)) dX4_init_47 rfl rfl (fun _ => rfl) ac_int (fun _ _ => pmE_int (show psh 70 = (5, 8) from rfl) (Or.inl rfl)) (fun _ => rfl) (fun _ _ h => h) (by decide) (by decide) (by decide) (gN_mon (by decide) (by decide)) (by decide +kernel) ⟨rf_a (by omega), trivial⟩ ⟨ro_a (by omega), trivial⟩ ⟨Nat.le_of_ble_eq_true rfl, Nat.le_of_ble_eq_true rfl⟩ ?_
  refine e_putR dX4_init_49 rfl lfX4_25 rfl rfl (fun _ => rfl) (fun _ => rfl) ps_64 (by decide) (by decide) ?_
  refine e_aload_0 dX4_init_52 rfl ?_
  refine e_bipush (v := nI 8) dX4_init_53 rfl bc_8 ?_
  refine e_newA (ty := .boolean) (N := 8) (kd := 6) (t0 := 1) (a0 := (8, .inl fun _ => 0)) dX4_init_55 rfl rfl (fun _ => rfl) ac_boolean (fun _ _ => pmE_int (show psh 71 = (6, 8) from rfl) (Or.inr rfl)) (fun _ => rfl) (fun _ _ h => h) (by decide) (by decide) (by decide) (gN_mon (by decide) (by decide)) (by decide +kernel) ⟨rf_a (by omega), trivial⟩ ⟨ro_a (by omega), trivial⟩ ⟨Nat.le_of_ble_eq_true rfl, Nat.le_of_ble_eq_true rfl⟩ ?_
  refine e_putR dX4_init_57 rfl lfX4_28 rfl rfl (fun _ => rfl) (fun _ => rfl) ps_64 (by decide) (by decide) ?_
  refine e_aload_0 dX4_init_60 rfl ?_
  refine e_bipush (v := nI 8) dX4_init_61 rfl bc_8 ?_
  refine e_newA (ty := .int) (N := 8) (kd := 5) (t0 := 0) (a0 := (8, .inl fun _ => 0)) dX4_init_63 rfl rfl (fun _ => rfl) ac_int (fun _ _ => pmE_int (show psh 72 = (5, 8) from rfl) (Or.inl rfl)) (fun _ => rfl) (fun _ _ h => h) (by decide) (by decide) (by decide) (gN_mon (by decide) (by decide)) (by decide +kernel) ⟨rf_a (by omega), trivial⟩ ⟨ro_a (by omega), trivial⟩ ⟨Nat.le_of_ble_eq_true rfl, Nat.le_of_ble_eq_true rfl⟩ ?_
  refine e_putR dX4_init_65 rfl lfX4_32 rfl rfl (fun _ => rfl) (fun _ => rfl) ps_64 (by decide) (by decide) ?_
  refine e_aload_0 dX4_init_68 rfl ?_
  refine e_bipush (v := nI 8) dX4_init_69 rfl bc_8 ?_
  refine e_newA (ty := .boolean) (N := 8) (kd := 6) (t0 := 1) (a0 := (8, .inl fun _ => 0)) dX4_init_71 rfl rfl (fun _ => rfl) ac_boolean (fun _ _ => pmE_int (show psh 73 = (6, 8) from rfl) (Or.inr rfl)) (fun _ => rfl) (fun _ _ h => h) (by decide) (by decide) (by decide) (gN_mon (by decide) (by decide)) (by decide +kernel) ⟨rf_a (by omega), trivial⟩ ⟨ro_a (by omega), trivial⟩ ⟨Nat.le_of_ble_eq_true rfl, Nat.le_of_ble_eq_true rfl⟩ ?_
  refine e_putR dX4_init_73 rfl lfX4_35 rfl rfl (fun _ => rfl) (fun _ => rfl) ps_64 (by decide) (by decide) ?_
  refine e_aload_0 dX4_init_76 rfl ?_
  refine e_bipush (v := nI 24) dX4_init_77 rfl bc_24 ?_
  refine e_newA (ty := .int) (N := 24) (kd := 5) (t0 := 0) (a0 := (24, .inl fun _ => 0)) dX4_init_79 rfl rfl (fun _ => rfl) ac_int (fun _ _ => pmE_int (show psh 74 = (5, 24) from rfl) (Or.inl rfl)) (fun _ => rfl) (fun _ _ h => h) (by decide) (by decide) (by decide) (gN_mon (by decide) (by decide)) (by decide +kernel) ⟨rf_a (by omega), trivial⟩ ⟨ro_a (by omega), trivial⟩ ⟨Nat.le_of_ble_eq_true rfl, Nat.le_of_ble_eq_true rfl⟩ ?_
  refine e_putR dX4_init_81 rfl lfX4_38 rfl rfl (fun _ => rfl) (fun _ => rfl) ps_64 (by decide) (by decide) ?_
  refine e_aload_0 dX4_init_84 rfl ?_
  refine e_bipush (v := nI 8) dX4_init_85 rfl bc_8 ?_
  refine e_newA (ty := .int) (N := 8) (kd := 5) (t0 := 0) (a0 := (8, .inl fun _ => 0)) dX4_init_87 rfl rfl (fun _ => rfl) ac_int (fun _ _ => pmE_int (show psh 75 = (5, 8) from rfl) (Or.inl rfl)) (fun _ => rfl) (fun _ _ h => h) (by decide) (by decide) (by decide) (gN_mon (by decide) (by decide)) (by decide +kernel) ⟨rf_a (by omega), trivial⟩ ⟨ro_a (by omega), trivial⟩ ⟨Nat.le_of_ble_eq_true rfl, Nat.le_of_ble_eq_true rfl⟩ ?_
  refine e_putR dX4_init_89 rfl lfX4_41 rfl rfl (fun _ => rfl) (fun _ => rfl) ps_64 (by decide) (by decide) ?_
  refine e_aload_0 dX4_init_92 rfl ?_
  refine e_bipush (v := nI 8) dX4_init_93 rfl bc_8 ?_
  refine e_newA (ty := .int) (N := 8) (kd := 5) (t0 := 0) (a0 := (8, .inl fun _ => 0)) dX4_init_95 rfl rfl (fun _ => rfl) ac_int (fun _ _ => pmE_int (show psh 76 = (5, 8) from rfl) (Or.inl rfl)) (fun _ => rfl) (fun _ _ h => h) (by decide) (by decide) (by decide) (gN_mon (by decide) (by decide)) (by decide +kernel) ⟨rf_a (by omega), trivial⟩ ⟨ro_a (by omega), trivial⟩ ⟨Nat.le_of_ble_eq_true rfl, Nat.le_of_ble_eq_true rfl⟩ ?_
  refine e_putR dX4_init_97 rfl lfX4_44 rfl rfl (fun _ => rfl) (fun _ => rfl) ps_64 (by decide) (by decide) ?_
  refine e_aload_0 dX4_init_100 rfl ?_
  refine e_bipush (v := nI 8) dX4_init_101 rfl bc_8 ?_
  refine e_newA (ty := .int) (N := 8) (kd := 5) (t0 := 0) (a0 := (8, .inl fun _ => 0)) dX4_init_103 rfl rfl (fun _ => rfl) ac_int (fun _ _ => pmE_int (show psh 77 = (5, 8) from rfl) (Or.inl rfl)) (fun _ => rfl) (fun _ _ h => h) (by decide) (by decide) (by decide) (gN_mon (by decide) (by decide)) (by decide +kernel) ⟨rf_a (by omega), trivial⟩ ⟨ro_a (by omega), trivial⟩ ⟨Nat.le_of_ble_eq_true rfl, Nat.le_of_ble_eq_true rfl⟩ ?_
  refine e_putR dX4_init_105 rfl lfX4_47 rfl rfl (fun _ => rfl) (fun _ => rfl) ps_64 (by decide) (by decide) ?_
  refine e_aload_0 dX4_init_108 rfl ?_
  refine e_bipush (v := nI 8) dX4_init_109 rfl bc_8 ?_
  refine e_newA (ty := .int) (N := 8) (kd := 5) (t0 := 0) (a0 := (8, .inl fun _ => 0)) dX4_init_111 rfl rfl (fun _ => rfl) ac_int (fun _ _ => pmE_int (show psh 78 = (5, 8) from rfl) (Or.inl rfl)) (fun _ => rfl) (fun _ _ h => h) (by decide) (by decide) (by decide) (gN_mon (by decide) (by decide)) (by decide +kernel) ⟨rf_a (by omega), trivial⟩ ⟨ro_a (by omega), trivial⟩ ⟨Nat.le_of_ble_eq_true rfl, Nat.le_of_ble_eq_true rfl⟩ ?_
  refine e_putR dX4_init_113 rfl lfX4_50 rfl rfl (fun _ => rfl) (fun _ => rfl) ps_64 (by decide) (by decide) ?_
  refine e_aload_0 dX4_init_116 rfl ?_
  refine e_bipush (v := nI 8) dX4_init_117 rfl bc_8 ?_
  refine e_newA (ty := .int) (N := 8) (kd := 5) (t0 := 0) (a0 := (8, .inl fun _ => 0)) dX4_init_119 rfl rfl (fun _ => rfl) ac_int (fun _ _ => pmE_int (show psh 79 = (5, 8) from rfl) (Or.inl rfl)) (fun _ => rfl) (fun _ _ h => h) (by decide) (by decide) (by decide) (gN_mon (by decide) (by decide)) (by decide +kernel) ⟨rf_a (by omega), trivial⟩ ⟨ro_a (by omega), trivial⟩ ⟨Nat.le_of_ble_eq_true rfl, Nat.le_of_ble_eq_true rfl⟩ ?_
  refine e_putR dX4_init_121 rfl lfX4_53 rfl rfl (fun _ => rfl) (fun _ => rfl) ps_64 (by decide) (by decide) ?_
  refine e_aload_0 dX4_init_124 rfl ?_
  refine e_bipush (v := nI 8) dX4_init_125 rfl bc_8 ?_
  refine e_newA (ty := .int) (N := 8) (kd := 5) (t0 := 0) (a0 := (8, .inl fun _ => 0)) dX4_init_127 rfl rfl (fun _ => rfl) ac_int (fun _ _ => pmE_int (show psh 80 = (5, 8) from rfl) (Or.inl rfl)) (fun _ => rfl) (fun _ _ h => h) (by decide) (by decide) (by decide) (gN_mon (by decide) (by decide)) (by decide +kernel) ⟨rf_a (by omega), trivial⟩ ⟨ro_a (by omega), trivial⟩ ⟨Nat.le_of_ble_eq_true rfl, Nat.le_of_ble_eq_true rfl⟩ ?_
  refine e_putR dX4_init_129 rfl lfX4_56 rfl rfl (fun _ => rfl) (fun _ => rfl) ps_64 (by decide) (by decide) ?_
  refine e_aload_0 dX4_init_132 rfl ?_
  refine e_bipush (v := nI 8) dX4_init_133 rfl bc_8 ?_
  refine e_newA (ty := .int) (N := 8) (kd := 5) (t0 := 0) (a0 := (8, .inl fun _ => 0)) dX4_init_135 rfl rfl (fun _ => rfl) ac_int (fun _ _ => pmE_int (show psh 81 = (5, 8) from rfl) (Or.inl rfl)) (fun _ => rfl) (fun _ _ h => h) (by decide) (by decide) (by decide) (gN_mon (by decide) (by decide)) (by decide +kernel) ⟨rf_a (by omega), trivial⟩ ⟨ro_a (by omega), trivial⟩ ⟨Nat.le_of_ble_eq_true rfl, Nat.le_of_ble_eq_true rfl⟩ ?_
  refine e_putR dX4_init_137 rfl lfX4_59 rfl rfl (fun _ => rfl) (fun _ => rfl) ps_64 (by decide) (by decide) ?_
  refine e_aload_0 dX4_init_140 rfl ?_
  refine e_sipush (v := nI 194) dX4_init_141 rfl sc_194 ?_
  refine e_newA (ty := .int) (N := 194) (kd := 5) (t0 := 0) (a0 := (194, .inl fun _ => 0)) dX4_init_144 rfl rfl (fun _ => rfl) ac_int (fun _ _ => pmE_int (show psh 82 = (5, 194) from rfl) (Or.inl rfl)) (fun _ => rfl) (fun _ _ h => h) (by decide) (by decide) (by decide) (gN_mon (by decide) (by decide)) (by decide +kernel) ⟨rf_a (by omega), trivial⟩ ⟨ro_a (by omega), trivial⟩ ⟨Nat.le_of_ble_eq_true rfl, Nat.le_of_ble_eq_true rfl⟩ ?_
  refine e_putR dX4_init_146 rfl lfX4_62 rfl rfl (fun _ => rfl) (fun _ => rfl) ps_64 (by decide) (by decide) ?_
  refine e_aload_0 dX4_init_149 rfl ?_
  refine e_bipush (v := nI 8) dX4_init_150 rfl bc_8 ?_
  refine e_newA (ty := .int) (N := 8) (kd := 5) (t0 := 0) (a0 := (8, .inl fun _ => 0)) dX4_init_152 rfl rfl (fun _ => rfl) ac_int (fun _ _ => pmE_int (show psh 83 = (5, 8) from rfl) (Or.inl rfl)) (fun _ => rfl) (fun _ _ h => h) (by decide) (by decide) (by decide) (gN_mon (by decide) (by decide)) (by decide +kernel) ⟨rf_a (by omega), trivial⟩ ⟨ro_a (by omega), trivial⟩ ⟨Nat.le_of_ble_eq_true rfl, Nat.le_of_ble_eq_true rfl⟩ ?_
  refine e_putR dX4_init_154 rfl lfX4_65 rfl rfl (fun _ => rfl) (fun _ => rfl) ps_64 (by decide) (by decide) ?_
  exact e_vretN dX4_init_157 rfl (Nat.le_of_ble_eq_true rfl) (Nat.le_of_ble_eq_true rfl) rfl
