/-! ===== law's beginning ===== -/
def M0 : pmM := (fun _ _ => 0, mrC (fun p => p), fun _ _ => 0, fun _ _ => 0)
theorem rel0 : RLX M0 := by
  refine ⟨fun p => p, fun _ => 0, 0, 0, 0, 0, fun _ => 0, fun _ => 0, fun _ _ => 0, fun _ _ => 0, fun _ _ => 0, ⟨rfl, fun p h => h, fun p q _ _ h => h, by decide, by decide, by decide, rfl, rfl, rfl, rfl, rfl, rfl, rfl, rfl⟩, ⟨fun o ho => ⟨rfl, Nat.zero_le _, rfl, rfl, Nat.zero_le _, fun _ => ⟨rfl, rfl⟩⟩, fun o k ho => absurd ho (Nat.not_lt_zero o), fun o k ho => absurd ho (Nat.not_lt_zero o), fun o ho => absurd ho (Nat.not_lt_zero o), fun o ho i hi => ?_⟩, ⟨fun p hp => absurd hp (Nat.not_lt_zero p), fun p q hp => absurd hp (Nat.not_lt_zero p), fun s hs => ⟨fun _ p hp => absurd hp (Nat.not_lt_zero p), fun _ => rfl⟩, fun p hp => absurd hp (Nat.not_lt_zero p), fun p f hp => absurd hp (Nat.not_lt_zero p)⟩⟩
  constructor
  · intro h
    exact Bool.noConfusion ((hasb_0 i).symm.trans h)
  · rintro ⟨k, hk, -⟩
    exact absurd hk (Nat.not_lt_zero k)
theorem same0 : same1 86 (MR TL4) M0 := fun i hi k hk => ⟨rfl, rfl, rfl, (show ∀ i, i < 86 → ∀ k, k < (psh i).2 → (((psh i).1 < 5 ∧ pmTy (psh i).1 k = true) ∨ (psh i).1 = 5 ∨ (psh i).1 = 6 ∨ 10 < (psh i).1 ∨ mrC (fun p => p) i k = rt TL4 i k) by decide +kernel) i hi k hk⟩
theorem clL_8 : Cond.classLink RL 8 RX3 ∈ gw := gw_of 64 (by decide +kernel) rfl
theorem clL_122 : Cond.classLink RL 122 RX4 ∈ gw := gw_of 770 (by decide +kernel) rfl
theorem law_begin {l : Launch} (hf : l.stackTraces = false) {nm : String} {hl : List (Nat × Nat × Nat × Nat)} {b Ln : Nat} {xs : Nat → Int32} (hL : Ln ≤ 3584) : Ev l (kLaw nm hl) (gS b Ln xs) room_1 0 0 0 0 [some (.ref 1000), none, none, none, none, none, none, none, none] [] (MR []) := by
  refine e_newO dL_law_0 rfl (ci := 3) rfl ps_0 (by decide) clL_8 (gw_of 65 (by decide +kernel) rfl) (gw_of 45 (by decide +kernel) rfl) dvX3 (gS_mon (by decide)) (by decide) (by decide) trivial ⟨ro_b (by omega), ⟨trivial, ⟨trivial, ⟨trivial, ⟨trivial, ⟨trivial, ⟨trivial, ⟨trivial, ⟨trivial, trivial⟩⟩⟩⟩⟩⟩⟩⟩⟩ ⟨Nat.le_of_ble_eq_true rfl, Nat.le_of_ble_eq_true rfl⟩ ?_
  refine e_dup dL_law_3 rfl rfl ?_
  refine e_callC (n' := 64) dL_law_4 rfl (Or.inl ciL_121) rfl rfl (c_X3 hf) ⟨Nat.le_of_ble_eq_true rfl, Nat.le_of_ble_eq_true rfl⟩ ⟨Nat.le_of_ble_eq_true rfl, Nat.le_of_ble_eq_true rfl⟩ (Nat.le_of_ble_eq_true rfl) (gS_mon (by decide)) gS_ao ⟨rf_a (by omega), trivial⟩ ⟨ro_b (by omega), ⟨trivial, ⟨trivial, ⟨trivial, ⟨trivial, ⟨trivial, ⟨trivial, ⟨trivial, ⟨trivial, trivial⟩⟩⟩⟩⟩⟩⟩⟩⟩ rfl rfl ?_
  refine e_astore_1 dL_law_7 rfl (Nat.le_of_ble_eq_true rfl) rfl ?_
  refine e_newO dL_law_8 rfl (ci := 4) rfl ps_64 (by decide) clL_122 (gw_of 771 (by decide +kernel) rfl) (gw_of 49 (by decide +kernel) rfl) dvX4 (gS_mon (by decide)) (by decide +kernel) (by decide +kernel) trivial ⟨ro_b (by omega), ⟨ro_a (by omega), ⟨trivial, ⟨trivial, ⟨trivial, ⟨trivial, ⟨trivial, ⟨trivial, ⟨trivial, trivial⟩⟩⟩⟩⟩⟩⟩⟩⟩ ⟨Nat.le_of_ble_eq_true rfl, Nat.le_of_ble_eq_true rfl⟩ ?_
  refine e_dup dL_law_11 rfl rfl ?_
  refine e_callC (n' := 84) dL_law_12 rfl (Or.inl ciL_124) rfl rfl (c_X4 hf) ⟨Nat.le_of_ble_eq_true rfl, Nat.le_of_ble_eq_true rfl⟩ ⟨Nat.le_of_ble_eq_true rfl, Nat.le_of_ble_eq_true rfl⟩ (Nat.le_of_ble_eq_true rfl) (gS_mon (by decide)) gS_ao ⟨rf_a (by omega), trivial⟩ ⟨ro_b (by omega), ⟨ro_a (by omega), ⟨trivial, ⟨trivial, ⟨trivial, ⟨trivial, ⟨trivial, ⟨trivial, ⟨trivial, trivial⟩⟩⟩⟩⟩⟩⟩⟩⟩ rfl rfl ?_
  refine e_astore_2 dL_law_15 rfl (Nat.le_of_ble_eq_true rfl) rfl ?_
  refine e_iconst (v := nI 1) dL_law_16 rfl ic_1 ?_
  refine e_newA (ty := .long) (N := 1) (kd := 11) (t0 := 6) (a0 := (1, .inr (.inl fun _ => 0))) dL_law_17 rfl rfl (fun _ => rfl) ac_long (fun _ _ => pmE_long ps_84) (fun _ => rfl) (fun _ _ h => h) (by decide) (by decide) (by decide) (gS_mon (by decide)) (by decide +kernel) trivial ⟨ro_b (by omega), ⟨ro_a (by omega), ⟨ro_a (by omega), ⟨trivial, ⟨trivial, ⟨trivial, ⟨trivial, ⟨trivial, ⟨trivial, trivial⟩⟩⟩⟩⟩⟩⟩⟩⟩ ⟨Nat.le_of_ble_eq_true rfl, Nat.le_of_ble_eq_true rfl⟩ ?_
  refine e_astore_3 dL_law_19 rfl (Nat.le_of_ble_eq_true rfl) rfl ?_
  refine e_iconst (v := nI 1) dL_law_20 rfl ic_1 ?_
  refine e_newA (ty := .double) (N := 1) (kd := 12) (t0 := 7) (a0 := (1, .inr (.inr (.inr (.inl fun _ => 0))))) dL_law_21 rfl rfl (fun _ => rfl) ac_double (fun _ _ => pmE_double ps_85) (fun _ => rfl) (fun _ _ h => h) (by decide) (by decide) (by decide) (gS_mon (by decide)) (by decide +kernel) trivial ⟨ro_b (by omega), ⟨ro_a (by omega), ⟨ro_a (by omega), ⟨ro_a (by omega), ⟨trivial, ⟨trivial, ⟨trivial, ⟨trivial, ⟨trivial, trivial⟩⟩⟩⟩⟩⟩⟩⟩⟩ ⟨Nat.le_of_ble_eq_true rfl, Nat.le_of_ble_eq_true rfl⟩ ?_
  refine e_astore_4 dL_law_23 rfl (Nat.le_of_ble_eq_true rfl) rfl ?_
  refine e_iconst (v := nI 0) dL_law_25 rfl ic_0 ?_
  refine e_istore_5 dL_law_26 rfl (Nat.le_of_ble_eq_true rfl) rfl ?_
  refine e_junk same0 ?_
  refine e_wid (u' := 86 + 6 * 0) (w' := 2000 + 36 * 0) (by decide) (by decide) ?_
  exact lw_loop hf hL (U0 := 86) (W0 := 2000) (by decide) (by decide) 513 0 (by omega) (by omega) M0 rel0
