/-! ===== law's beginning ===== -/
def M0 : pmM := (fun _ _ => 0, mrC (fun p => p), fun _ _ => 0, fun _ _ => 0)
theorem iv0 : IV M0 (fun p => p) 0 0 0 0 (fun _ => 0) 0 := by
  refine ⟨⟨rfl, fun p h => h, fun p q _ _ h => h, by decide, by decide, by decide, rfl, rfl, rfl, rfl⟩, fun o ho => ⟨⟨rfl, Nat.zero_le _⟩, fun i hi hb => ?_, ?_⟩, ⟨fun p hp => absurd hp (Nat.not_lt_zero p), fun p q hp => absurd hp (Nat.not_lt_zero p)⟩, fun p f hp => absurd hp (Nat.not_lt_zero p)⟩
  · exact Bool.noConfusion ((hasb_0 i).symm.trans hb)
  · show cntN (hasb 0) 32 ≤ 2
    decide +kernel
theorem same0 : same1 64 (MR TL3) M0 := fun i hi k hk => ⟨rfl, rfl, rfl, (show ∀ i, i < 64 → ∀ k, k < (psh i).2 → (((psh i).1 < 5 ∧ pmTy (psh i).1 k = true) ∨ (psh i).1 = 5 ∨ (psh i).1 = 6 ∨ 10 < (psh i).1 ∨ mrC (fun p => p) i k = rt TL3 i k) by decide +kernel) i hi k hk⟩
theorem clL_10 : Cond.classLink RL 10 RX3 ∈ gw := gw_of 47 (by decide +kernel) rfl
theorem law_begin {l : Launch} (hf : l.stackTraces = false) {nm : String} {hl : List (Nat × Nat × Nat × Nat)} {b Ln : Nat} {xs : Nat → Int32} (hL : Ln ≤ 260) : Ev l (kLaw nm hl) (gS b Ln xs) room_1 0 0 0 0 [some (.ref 1000), none, none, none, none, none, none, none, none, none, none, none, none, none, none, none, none, none] [] (MR []) := by
  refine e_newO dL_law_0 rfl (ci := 3) rfl ps_0 (by decide) clL_10 (gw_of 48 (by decide +kernel) rfl) (gw_of 29 (by decide +kernel) rfl) dvX3 (gS_mon (by decide)) (by decide) (by decide) trivial ⟨ro_b (by omega), ⟨trivial, ⟨trivial, ⟨trivial, ⟨trivial, ⟨trivial, ⟨trivial, ⟨trivial, ⟨trivial, ⟨trivial, ⟨trivial, ⟨trivial, ⟨trivial, ⟨trivial, ⟨trivial, ⟨trivial, ⟨trivial, ⟨trivial, trivial⟩⟩⟩⟩⟩⟩⟩⟩⟩⟩⟩⟩⟩⟩⟩⟩⟩⟩ ⟨Nat.le_of_ble_eq_true rfl, Nat.le_of_ble_eq_true rfl⟩ ?_
  refine e_dup dL_law_3 rfl rfl ?_
  refine e_callC (n' := 64) dL_law_4 rfl (Or.inl ciL_144) rfl rfl (c_X3 hf) ⟨Nat.le_of_ble_eq_true rfl, Nat.le_of_ble_eq_true rfl⟩ ⟨Nat.le_of_ble_eq_true rfl, Nat.le_of_ble_eq_true rfl⟩ (Nat.le_of_ble_eq_true rfl) (gS_mon (by decide)) gS_ao ⟨rf_a (by omega), trivial⟩ ⟨ro_b (by omega), ⟨trivial, ⟨trivial, ⟨trivial, ⟨trivial, ⟨trivial, ⟨trivial, ⟨trivial, ⟨trivial, ⟨trivial, ⟨trivial, ⟨trivial, ⟨trivial, ⟨trivial, ⟨trivial, ⟨trivial, ⟨trivial, ⟨trivial, trivial⟩⟩⟩⟩⟩⟩⟩⟩⟩⟩⟩⟩⟩⟩⟩⟩⟩⟩ rfl rfl ?_
  refine e_junk same0 ?_
  have ks : Sp l kX3_sortByHits 64 15 0 0 [.ref 0] M0 (.inl (some (.int (nI 0)))) M0 := by
    have k := s_sortByHits hf iv0.mr iv0.od8 iv0.hrc iv0.rc8
    rw [so_none (M := M0) (rc := 0) (od := fun p => p) rfl 63 0] at k
    exact k
  refine e_astore_1 dL_law_7 rfl (Nat.le_of_ble_eq_true rfl) rfl ?_
  refine e_iconst (v := nI 0) dL_law_8 rfl ic_0 ?_
  refine e_istore_2 dL_law_9 rfl (Nat.le_of_ble_eq_true rfl) rfl ?_
  refine e_iconst (v := nI 0) dL_law_10 rfl ic_0 ?_
  refine e_istore_3 dL_law_11 rfl (Nat.le_of_ble_eq_true rfl) rfl ?_
  refine e_aload_1 dL_law_12 rfl ?_
  refine e_iconst (v := nI 5) dL_law_13 rfl ic_5 ?_
  refine e_iconst (v := nI 0) dL_law_14 rfl ic_0 ?_
  refine e_iconst (v := nI 0) dL_law_15 rfl ic_0 ?_
  refine e_iconst (v := nI 0) dL_law_16 rfl ic_0 ?_
  refine e_callW dL_law_17 rfl csL_117 (k_values_no hf iv0 (x := nI 0) (fun w => w (Or.inr (by decide)))) rfl rfl ⟨Nat.le_of_ble_eq_true rfl, Nat.le_of_ble_eq_true rfl⟩ ⟨Nat.le_of_ble_eq_true rfl, Nat.le_of_ble_eq_true rfl⟩ rfl rfl (Nat.le_of_ble_eq_true rfl) ?_
  refine e_bipush (v := -101) dL_law_20 rfl bc_m101 ?_
  refine e_ic_ne_f dL_law_22 rfl ⟨66, by decide⟩ rfl ?_
  refine e_aload_1 dL_law_25 rfl ?_
  refine e_callV dL_law_26 rfl csL_133 (s_accepted hf iv0.mr iv0.od8 iv0.hrc iv0.rc8) rfl rfl ps_0 (by decide) (by decide) ⟨Nat.le_of_ble_eq_true rfl, Nat.le_of_ble_eq_true rfl⟩ ⟨Nat.le_of_ble_eq_true rfl, Nat.le_of_ble_eq_true rfl⟩ rfl rfl (Nat.le_of_ble_eq_true rfl) ?_
  refine e_if_ne_f dL_law_29 rfl ⟨66, by decide⟩ rfl ?_
  refine e_aload_1 dL_law_32 rfl ?_
  refine e_bipush (v := nI 14) dL_law_33 rfl bd_14 ?_
  refine e_iconst (v := nI 1) dL_law_35 rfl ic_1 ?_
  refine e_iconst (v := nI 2) dL_law_36 rfl ic_2 ?_
  refine e_iconst (v := nI 3) dL_law_37 rfl ic_3 ?_
  refine e_callW dL_law_38 rfl csL_117 (k_decider_no hf iv0 (a := 1) (b := 2) (c := 3) (by decide) (by decide) (by decide) (fun q hq => absurd hq (Nat.not_lt_zero q))) rfl rfl ⟨Nat.le_of_ble_eq_true rfl, Nat.le_of_ble_eq_true rfl⟩ ⟨Nat.le_of_ble_eq_true rfl, Nat.le_of_ble_eq_true rfl⟩ rfl rfl (Nat.le_of_ble_eq_true rfl) ?_
  refine e_iconst (v := -1) dL_law_41 rfl ic_m1 ?_
  refine e_ic_ne_f dL_law_42 rfl ⟨66, by decide⟩ rfl ?_
  refine e_aload_1 dL_law_45 rfl ?_
  refine e_bipush (v := nI 13) dL_law_46 rfl bd_13 ?_
  refine e_iconst (v := nI 1) dL_law_48 rfl ic_1 ?_
  refine e_iconst (v := nI 2) dL_law_49 rfl ic_2 ?_
  refine e_iconst (v := nI 3) dL_law_50 rfl ic_3 ?_
  refine e_callW dL_law_51 rfl csL_117 (k_packet_no hf iv0 (a := 1) (b := 2) (c := 3) (by decide) (by decide) (by decide) (fun q hq => absurd hq (Nat.not_lt_zero q))) rfl rfl ⟨Nat.le_of_ble_eq_true rfl, Nat.le_of_ble_eq_true rfl⟩ ⟨Nat.le_of_ble_eq_true rfl, Nat.le_of_ble_eq_true rfl⟩ rfl rfl (Nat.le_of_ble_eq_true rfl) ?_
  refine e_bipush (v := nI 100) dL_law_54 rfl bc_100 ?_
  refine e_ic_ne_f dL_law_56 rfl ⟨66, by decide⟩ rfl ?_
  refine e_aload_1 dL_law_59 rfl ?_
  refine e_callV dL_law_60 rfl csL_145 ks rfl rfl ps_0 (by decide) (by decide) ⟨Nat.le_of_ble_eq_true rfl, Nat.le_of_ble_eq_true rfl⟩ ⟨Nat.le_of_ble_eq_true rfl, Nat.le_of_ble_eq_true rfl⟩ rfl rfl (Nat.le_of_ble_eq_true rfl) ?_
  refine e_if_eq_t (tgt := 68) dL_law_63 (by decide) rfl ?_
  refine e_iconst (v := nI 0) dL_law_68 rfl ic_0 ?_
  refine e_istore_4 dL_law_69 rfl (Nat.le_of_ble_eq_true rfl) rfl ?_
  refine e_wid (u' := 1000 + 1500 * 0) (w' := 6 * (1000 + 1500 * 0)) (by decide) (by decide) ?_
  exact lw_loop hf hL 46 0 rfl iv0 (Nat.le_refl _) (Nat.le_refl _) (fun _ => rfl) (fun z => absurd z (by decide))
