/-! ===== FilterRules: writes to a rule, the order, changes of the order ===== -/
def beM (M : pmM) (j : Nat) (nn ac ow td : Int32) : pmM := (pm2 (pm2 (pm2 (pm2 (pm2 (pm2 (pm2 (pm2 M.1 (31 + 3 * j) 0 nn) (31 + 3 * j) 1 ac) (31 + 3 * j) 2 ow) (31 + 3 * j) 3 (-1)) (31 + 3 * j) 4 td) (31 + 3 * j) 5 (nI 0)) (31 + 3 * j) 6 (nI 0)) (31 + 3 * j) 7 (-1), M.2)
def hi1 (M : pmM) (j : Nat) (td : Int32) : Nat → Nat → Int32 := if M.1 (31 + 3 * j) 7 = td then M.1 else pm2 M.1 (31 + 3 * j) 6 (M.1 (31 + 3 * j) 6 + nI 1)
def hiM (M : pmM) (j : Nat) (td : Int32) : pmM := (pm2 (pm2 (hi1 M j td) (31 + 3 * j) 5 (hi1 M j td (31 + 3 * j) 5 + nI 1)) (31 + 3 * j) 7 td, M.2)
theorem s_begin {l : Launch} (hf : l.stackTraces = false) {M : pmM} {j : Nat} (hj : j < 8) {nn ac ow td : Int32} (h1 : narrow .char (.int ac) = .int ac) (h2 : fits .char (.int ac) = true) : Sp l kX1_begin 64 0 0 0 [.ref (31 + 3 * j), .int nn, .int ac, .int ow, .int td] M (.inl none) (beM M j nn ac ow td) := by
  refine sp_of hf (by decide +kernel) (Nat.le_of_ble_eq_true rfl) (by intro v hv; simp at hv; rcases hv with rfl | rfl | rfl | rfl | rfl <;> rfl) rfl ?_
  refine e_aload_0 dX1_begin_0 rfl ?_
  refine e_iload_1 dX1_begin_1 rfl ?_
  refine e_putI dX1_begin_2 rfl lkX1_18 rfl rfl rfl (ps_R hj) (by decide) (lt_RU hj) ?_
  refine e_aload_0 dX1_begin_5 rfl ?_
  refine e_iload_2 dX1_begin_6 rfl ?_
  refine e_putI dX1_begin_7 rfl lkX1_22 rfl h1 h2 (ps_R hj) (by decide) (lt_RU hj) ?_
  refine e_aload_0 dX1_begin_10 rfl ?_
  refine e_iload_3 dX1_begin_11 rfl ?_
  refine e_putI dX1_begin_12 rfl lkX1_26 rfl rfl rfl (ps_R hj) (by decide) (lt_RU hj) ?_
  refine e_aload_0 dX1_begin_15 rfl ?_
  refine e_iconst (v := -1) dX1_begin_16 rfl ic_m1 ?_
  refine e_putI dX1_begin_17 rfl lkX1_29 rfl rfl rfl (ps_R hj) (by decide) (lt_RU hj) ?_
  refine e_aload_0 dX1_begin_20 rfl ?_
  refine e_iload_4 dX1_begin_21 rfl ?_
  refine e_putI dX1_begin_23 rfl lkX1_32 rfl rfl rfl (ps_R hj) (by decide) (lt_RU hj) ?_
  refine e_aload_0 dX1_begin_26 rfl ?_
  refine e_iconst (v := nI 0) dX1_begin_27 rfl ic_0 ?_
  refine e_putI dX1_begin_28 rfl lkX1_35 rfl rfl rfl (ps_R hj) (by decide) (lt_RU hj) ?_
  refine e_aload_0 dX1_begin_31 rfl ?_
  refine e_iconst (v := nI 0) dX1_begin_32 rfl ic_0 ?_
  refine e_putI dX1_begin_33 rfl lkX1_38 rfl rfl rfl (ps_R hj) (by decide) (lt_RU hj) ?_
  refine e_aload_0 dX1_begin_36 rfl ?_
  refine e_iconst (v := -1) dX1_begin_37 rfl ic_m1 ?_
  refine e_putI dX1_begin_38 rfl lkX1_41 rfl rfl rfl (ps_R hj) (by decide) (lt_RU hj) ?_
  exact e_vret dX1_begin_41 rfl (Nat.le_of_ble_eq_true rfl) (Nat.le_of_ble_eq_true rfl) rfl
theorem s_hitOn {l : Launch} (hf : l.stackTraces = false) {M : pmM} {j : Nat} (hj : j < 8) {td : Int32} : Sp l kX1_hitOn 64 0 0 0 [.ref (31 + 3 * j), .int td] M (.inl none) (hiM M j td) := by
  refine sp_of hf (by decide +kernel) (Nat.le_of_ble_eq_true rfl) (by intro v hv; simp at hv; rcases hv with rfl | rfl <;> rfl) rfl ?_
  by_cases h : M.1 (31 + 3 * j) 7 = td
  · refine e_aload_0 dX1_hitOn_0 rfl ?_
    refine e_getI dX1_hitOn_1 rfl lkX1_41 rfl (ps_R hj) (by decide) (lt_RU hj) ?_
    refine e_iload_1 dX1_hitOn_4 rfl ?_
    refine e_ic_eq_t (tgt := 18) dX1_hitOn_5 (by decide) h ?_
    refine e_aload_0 dX1_hitOn_18 rfl ?_
    refine e_dup dX1_hitOn_19 rfl rfl ?_
    refine e_getI dX1_hitOn_20 rfl lkX1_35 rfl (ps_R hj) (by decide) (lt_RU hj) ?_
    refine e_iconst (v := nI 1) dX1_hitOn_23 rfl ic_1 ?_
    refine e_iadd dX1_hitOn_24 rfl ?_
    refine e_putI dX1_hitOn_25 rfl lkX1_35 rfl rfl rfl (ps_R hj) (by decide) (lt_RU hj) ?_
    refine e_aload_0 dX1_hitOn_28 rfl ?_
    refine e_iload_1 dX1_hitOn_29 rfl ?_
    refine e_putI dX1_hitOn_30 rfl lkX1_41 rfl rfl rfl (ps_R hj) (by decide) (lt_RU hj) ?_
    exact e_vret dX1_hitOn_33 rfl (Nat.le_of_ble_eq_true rfl) (Nat.le_of_ble_eq_true rfl) (by unfold hiM hi1; rw [if_pos h])
  · refine e_aload_0 dX1_hitOn_0 rfl ?_
    refine e_getI dX1_hitOn_1 rfl lkX1_41 rfl (ps_R hj) (by decide) (lt_RU hj) ?_
    refine e_iload_1 dX1_hitOn_4 rfl ?_
    refine e_ic_eq_f dX1_hitOn_5 rfl ⟨18, by decide⟩ h ?_
    refine e_aload_0 dX1_hitOn_8 rfl ?_
    refine e_dup dX1_hitOn_9 rfl rfl ?_
    refine e_getI dX1_hitOn_10 rfl lkX1_38 rfl (ps_R hj) (by decide) (lt_RU hj) ?_
    refine e_iconst (v := nI 1) dX1_hitOn_13 rfl ic_1 ?_
    refine e_iadd dX1_hitOn_14 rfl ?_
    refine e_putI dX1_hitOn_15 rfl lkX1_38 rfl rfl rfl (ps_R hj) (by decide) (lt_RU hj) ?_
    refine e_aload_0 dX1_hitOn_18 rfl ?_
    refine e_dup dX1_hitOn_19 rfl rfl ?_
    refine e_getI dX1_hitOn_20 rfl lkX1_35 rfl (ps_R hj) (by decide) (lt_RU hj) ?_
    refine e_iconst (v := nI 1) dX1_hitOn_23 rfl ic_1 ?_
    refine e_iadd dX1_hitOn_24 rfl ?_
    refine e_putI dX1_hitOn_25 rfl lkX1_35 rfl rfl rfl (ps_R hj) (by decide) (lt_RU hj) ?_
    refine e_aload_0 dX1_hitOn_28 rfl ?_
    refine e_iload_1 dX1_hitOn_29 rfl ?_
    refine e_putI dX1_hitOn_30 rfl lkX1_41 rfl rfl rfl (ps_R hj) (by decide) (lt_RU hj) ?_
    exact e_vret dX1_hitOn_33 rfl (Nat.le_of_ble_eq_true rfl) (Nat.le_of_ble_eq_true rfl) (by unfold hiM hi1; rw [if_neg h])
def acF (M : pmM) (od : Nat → Nat) (rc p : Nat) : Int32 := if p < rc then M.1 (31 + 3 * od p) 1 else nI 100
theorem s_actionOf {l : Launch} (hf : l.stackTraces = false) {M : pmM} {od : Nat → Nat} (hmr : M.2.1 = mrC od) (hod : ∀ p, p < 8 → od p < 8) {rc : Nat} (hrc : M.1 0 3 = nI rc) (h8 : rc ≤ 8) (hac : ∀ p, p < rc → M.1 (31 + 3 * od p) 1 = nI 97 ∨ M.1 (31 + 3 * od p) 1 = nI 100) {p : Nat} (hp : p ≤ 8) : Sp l kX3_actionOf 64 1 0 0 [.ref 0, .int (nI p)] M (.inl (some (.int (acF M od rc p)))) M := by
  refine sp_of hf (by decide +kernel) (Nat.le_of_ble_eq_true rfl) (by intro v hv; simp at hv; rcases hv with rfl | rfl <;> rfl) rfl ?_
  by_cases h : p < rc
  · refine e_iload_1 dX3_actionOf_0 rfl ?_
    refine e_aload_0 dX3_actionOf_1 rfl ?_
    refine e_getI dX3_actionOf_2 rfl lkX3_116 rfl ps_0 (by decide) (by decide) ?_
    refine e_topi (nI rc) hrc ?_
    refine e_nc_ge_f dX3_actionOf_5 rfl ⟨20, by decide⟩ (by omega) (by omega) h ?_
    refine e_aload_0 dX3_actionOf_8 rfl ?_
    refine e_getR dX3_actionOf_9 rfl lkX3_17 rfl ps_0 (by decide) (by decide) (mr_of hmr rfl) ?_
    refine e_iload_1 dX3_actionOf_12 rfl ?_
    refine e_aald dX3_actionOf_13 rfl ps_2 (by decide) (by decide) (by decide) rfl (by omega) (mr_of hmr (mr_order _ _)) ?_
    refine e_getI dX3_actionOf_14 rfl lkX3_191 rfl (ps_R (hod _ (by omega))) (by decide) (lt_RU (hod _ (by omega))) ?_
    refine e_goto (tgt := 22) dX3_actionOf_17 (by decide) ?_
    have e1 : acF M od rc p = M.1 (31 + 3 * od p) 1 := if_pos h
    exact e_iret dX3_actionOf_22 rfl (by rcases hac p h with q | q <;> (show narrow .char (.int (M.1 (31 + 3 * od p) 1)) = .int (M.1 (31 + 3 * od p) 1)) <;> rw [q] <;> rfl) (Nat.le_of_ble_eq_true rfl) (Nat.le_of_ble_eq_true rfl) e1.symm rfl
  · refine e_iload_1 dX3_actionOf_0 rfl ?_
    refine e_aload_0 dX3_actionOf_1 rfl ?_
    refine e_getI dX3_actionOf_2 rfl lkX3_116 rfl ps_0 (by decide) (by decide) ?_
    refine e_topi (nI rc) hrc ?_
    refine e_nc_ge_t (tgt := 20) dX3_actionOf_5 (by decide) (by omega) (by omega) (Nat.not_lt.mp h) ?_
    refine e_bipush (v := nI 100) dX3_actionOf_20 rfl bc_100 ?_
    exact e_iret dX3_actionOf_22 rfl rfl (Nat.le_of_ble_eq_true rfl) (Nat.le_of_ble_eq_true rfl) (if_neg h).symm rfl
/-- what a rule at pos gets past, over the positions from a on, n of them -/
def caB (M : pmM) (od : Nat → Nat) (pos i : Nat) : Bool := inF M od i && !decide (M.1 (31 + 3 * od i) 1 = M.1 (31 + 3 * od pos) 1)
def caS (M : pmM) (od : Nat → Nat) (pos a : Nat) : Nat → Int32
  | 0 => nI 0
  | n + 1 => if caB M od pos (a + n) = true then caS M od pos a n + lbE M od (od pos) (od (a + n)) (clr (ifN (inF M od) (a + n)) pos) else caS M od pos a n
def caE (M : pmM) (od : Nat → Nat) (pos a e : Nat) : Int32 := if inF M od pos = true then caS M od pos a (e - a) else nI 0
theorem s_changedAgainst {l : Launch} (hf : l.stackTraces = false) {M : pmM} {od : Nat → Nat} (hmr : M.2.1 = mrC od) (hod : ∀ p, p < 8 → od p < 8) {pos a e : Nat} (hp : pos < 8) (he : e ≤ 8) (hae : a ≤ e) : Sp l kX3_changedAgainst 64 12 0 0 [.ref 0, .int (nI pos), .int (nI a), .int (nI e)] M (.inl (some (.int (caE M od pos a e)))) M := by
  refine sp_of hf (by decide +kernel) (Nat.le_of_ble_eq_true rfl) (by intro v hv; simp at hv; rcases hv with rfl | rfl | rfl | rfl <;> rfl) rfl ?_
  by_cases h0 : inF M od pos = true
  · refine e_aload_0 dX3_changedAgainst_0 rfl ?_
    refine e_getR dX3_changedAgainst_1 rfl lkX3_17 rfl ps_0 (by decide) (by decide) (mr_of hmr rfl) ?_
    refine e_iload_1 dX3_changedAgainst_4 rfl ?_
    refine e_aald dX3_changedAgainst_5 rfl ps_2 (by decide) (by decide) (by decide) rfl (by omega) (mr_of hmr (mr_order _ _)) ?_
    refine e_astore_4 dX3_changedAgainst_6 rfl (Nat.le_of_ble_eq_true rfl) rfl ?_
    refine e_aload_4 dX3_changedAgainst_8 rfl ?_
    refine e_aload_0 dX3_changedAgainst_10 rfl ?_
    refine e_getI dX3_changedAgainst_11 rfl lkX3_143 rfl ps_0 (by decide) (by decide) ?_
    refine e_callN dX3_changedAgainst_14 rfl csX3_170 (s_lastsOn hf (hod _ hp)) rfl rfl (ps_R (hod _ hp)) (by decide) (lt_RU (hod _ hp)) ⟨Nat.le_of_ble_eq_true rfl, Nat.le_of_ble_eq_true rfl⟩ ⟨Nat.le_of_ble_eq_true rfl, Nat.le_of_ble_eq_true rfl⟩ rfl rfl (Nat.le_of_ble_eq_true rfl) ?_
    refine e_if_ne_t (tgt := 22) dX3_changedAgainst_17 (by decide) (bI1 h0) ?_
    refine e_iconst (v := nI 0) dX3_changedAgainst_22 rfl ic_0 ?_
    refine e_istore_5 dX3_changedAgainst_23 rfl (Nat.le_of_ble_eq_true rfl) rfl ?_
    refine e_iload_2 dX3_changedAgainst_25 rfl ?_
    refine e_istore_6 dX3_changedAgainst_26 rfl (Nat.le_of_ble_eq_true rfl) rfl ?_
    refine loop_up (P := fun i => Ev l kX3_changedAgainst (gM 64 0 0 (.inl (some (.int (caE M od pos a e)))) M) (rmd 12 0 0) 64 0 0 28 [some (.ref 0), some (.int (nI pos)), some (.int (nI a)), some (.int (nI e)), some (.ref (31 + 3 * od pos)), some (.int (caS M od pos a i)), some (.int (nI (a + i))), none] [] M) ?_ (fun i hi ih => ?_) 0 (Nat.zero_le (e - a))
    · refine e_iload_6 dX3_changedAgainst_28 rfl ?_
      refine e_iload_3 dX3_changedAgainst_30 rfl ?_
      refine e_nc_ge_t (tgt := 99) dX3_changedAgainst_31 (by decide) (by omega) (by omega) (by omega) ?_
      refine e_iload_5 dX3_changedAgainst_99 rfl ?_
      exact e_iret dX3_changedAgainst_101 rfl rfl (Nat.le_of_ble_eq_true rfl) (Nat.le_of_ble_eq_true rfl) (if_pos h0).symm rfl
    · by_cases h1 : inF M od (a + i) = true
      · by_cases h2 : M.1 (31 + 3 * od (a + i)) 1 = M.1 (31 + 3 * od pos) 1
        · refine e_iload_6 dX3_changedAgainst_28 rfl ?_
          refine e_iload_3 dX3_changedAgainst_30 rfl ?_
          refine e_nc_ge_f dX3_changedAgainst_31 rfl ⟨99, by decide⟩ (by omega) (by omega) (by omega) ?_
          refine e_aload_0 dX3_changedAgainst_34 rfl ?_
          refine e_getR dX3_changedAgainst_35 rfl lkX3_17 rfl ps_0 (by decide) (by decide) (mr_of hmr rfl) ?_
          refine e_iload_6 dX3_changedAgainst_38 rfl ?_
          refine e_aald dX3_changedAgainst_40 rfl ps_2 (by decide) (by decide) (by decide) rfl (by omega) (mr_of hmr (mr_order _ _)) ?_
          refine e_astore_7 dX3_changedAgainst_41 rfl (Nat.le_of_ble_eq_true rfl) rfl ?_
          refine e_aload_7 dX3_changedAgainst_43 rfl ?_
          refine e_aload_0 dX3_changedAgainst_45 rfl ?_
          refine e_getI dX3_changedAgainst_46 rfl lkX3_143 rfl ps_0 (by decide) (by decide) ?_
          refine e_callN dX3_changedAgainst_49 rfl csX3_170 (s_lastsOn hf (hod _ (by omega))) rfl rfl (ps_R (hod _ (by omega))) (by decide) (lt_RU (hod _ (by omega))) ⟨Nat.le_of_ble_eq_true rfl, Nat.le_of_ble_eq_true rfl⟩ ⟨Nat.le_of_ble_eq_true rfl, Nat.le_of_ble_eq_true rfl⟩ rfl rfl (Nat.le_of_ble_eq_true rfl) ?_
          refine e_if_eq_f dX3_changedAgainst_52 rfl ⟨93, by decide⟩ (bI1 h1) ?_
          refine e_aload_7 dX3_changedAgainst_55 rfl ?_
          refine e_getI dX3_changedAgainst_57 rfl lkX3_191 rfl (ps_R (hod _ (by omega))) (by decide) (lt_RU (hod _ (by omega))) ?_
          refine e_aload_4 dX3_changedAgainst_60 rfl ?_
          refine e_getI dX3_changedAgainst_62 rfl lkX3_191 rfl (ps_R (hod _ hp)) (by decide) (lt_RU (hod _ hp)) ?_
          refine e_ic_eq_t (tgt := 93) dX3_changedAgainst_65 (by decide) h2 ?_
          refine e_iinc_6 (v := nI (a + i + 1)) dX3_changedAgainst_93 rfl (Nat.le_of_ble_eq_true rfl) rfl (nI_1 (a + i)) ?_
          refine e_goto (tgt := 28) dX3_changedAgainst_96 (by decide) ?_
          refine e_weak (weak_c (weak_c (weak_c (weak_c (weak_c (weak_c (weak_c (weak_n weak_nil)))))))) ?_
          refine e_loc ?_ ih
          rw [caS, if_neg (by simp [caB, h2])]; rfl
        · refine e_iload_6 dX3_changedAgainst_28 rfl ?_
          refine e_iload_3 dX3_changedAgainst_30 rfl ?_
          refine e_nc_ge_f dX3_changedAgainst_31 rfl ⟨99, by decide⟩ (by omega) (by omega) (by omega) ?_
          refine e_aload_0 dX3_changedAgainst_34 rfl ?_
          refine e_getR dX3_changedAgainst_35 rfl lkX3_17 rfl ps_0 (by decide) (by decide) (mr_of hmr rfl) ?_
          refine e_iload_6 dX3_changedAgainst_38 rfl ?_
          refine e_aald dX3_changedAgainst_40 rfl ps_2 (by decide) (by decide) (by decide) rfl (by omega) (mr_of hmr (mr_order _ _)) ?_
          refine e_astore_7 dX3_changedAgainst_41 rfl (Nat.le_of_ble_eq_true rfl) rfl ?_
          refine e_aload_7 dX3_changedAgainst_43 rfl ?_
          refine e_aload_0 dX3_changedAgainst_45 rfl ?_
          refine e_getI dX3_changedAgainst_46 rfl lkX3_143 rfl ps_0 (by decide) (by decide) ?_
          refine e_callN dX3_changedAgainst_49 rfl csX3_170 (s_lastsOn hf (hod _ (by omega))) rfl rfl (ps_R (hod _ (by omega))) (by decide) (lt_RU (hod _ (by omega))) ⟨Nat.le_of_ble_eq_true rfl, Nat.le_of_ble_eq_true rfl⟩ ⟨Nat.le_of_ble_eq_true rfl, Nat.le_of_ble_eq_true rfl⟩ rfl rfl (Nat.le_of_ble_eq_true rfl) ?_
          refine e_if_eq_f dX3_changedAgainst_52 rfl ⟨93, by decide⟩ (bI1 h1) ?_
          refine e_aload_7 dX3_changedAgainst_55 rfl ?_
          refine e_getI dX3_changedAgainst_57 rfl lkX3_191 rfl (ps_R (hod _ (by omega))) (by decide) (lt_RU (hod _ (by omega))) ?_
          refine e_aload_4 dX3_changedAgainst_60 rfl ?_
          refine e_getI dX3_changedAgainst_62 rfl lkX3_191 rfl (ps_R (hod _ hp)) (by decide) (lt_RU (hod _ hp)) ?_
          refine e_ic_eq_f dX3_changedAgainst_65 rfl ⟨93, by decide⟩ h2 ?_
          refine e_iload_5 dX3_changedAgainst_68 rfl ?_
          refine e_aload_0 dX3_changedAgainst_70 rfl ?_
          refine e_aload_4 dX3_changedAgainst_71 rfl ?_
          refine e_aload_7 dX3_changedAgainst_73 rfl ?_
          refine e_aload_0 dX3_changedAgainst_75 rfl ?_
          refine e_iload_6 dX3_changedAgainst_76 rfl ?_
          refine e_callV dX3_changedAgainst_78 rfl csX3_237 (s_inForceAhead hf hmr hod (by omega)) rfl rfl ps_0 (by decide) (by decide) ⟨Nat.le_of_ble_eq_true rfl, Nat.le_of_ble_eq_true rfl⟩ ⟨Nat.le_of_ble_eq_true rfl, Nat.le_of_ble_eq_true rfl⟩ rfl rfl (Nat.le_of_ble_eq_true rfl) ?_
          refine e_iconst (v := nI 1) dX3_changedAgainst_81 rfl ic_1 ?_
          refine e_iload_1 dX3_changedAgainst_82 rfl ?_
          refine e_ishl dX3_changedAgainst_83 rfl ?_
          refine e_iconst (v := -1) dX3_changedAgainst_84 rfl ic_m1 ?_
          refine e_ixor dX3_changedAgainst_85 rfl ?_
          refine e_iand dX3_changedAgainst_86 rfl ?_
          refine e_topi (nI (clr (ifN (inF M od) (a + i)) pos)) (clr_eq (ifN_256 _ (by omega)) hp) ?_
          refine e_callV dX3_changedAgainst_87 rfl csX3_284 (s_leftOfBoth hf hmr hod (hod _ hp) (hod _ (by omega)) (clr_lt (ifN_256 _ (by omega)))) rfl rfl ps_0 (by decide) (by decide) ⟨Nat.le_of_ble_eq_true rfl, Nat.le_of_ble_eq_true rfl⟩ ⟨Nat.le_of_ble_eq_true rfl, Nat.le_of_ble_eq_true rfl⟩ rfl rfl (Nat.le_of_ble_eq_true rfl) ?_
          refine e_iadd dX3_changedAgainst_90 rfl ?_
          refine e_istore_5 dX3_changedAgainst_91 rfl (Nat.le_of_ble_eq_true rfl) rfl ?_
          refine e_iinc_6 (v := nI (a + i + 1)) dX3_changedAgainst_93 rfl (Nat.le_of_ble_eq_true rfl) rfl (nI_1 (a + i)) ?_
          refine e_goto (tgt := 28) dX3_changedAgainst_96 (by decide) ?_
          refine e_weak (weak_c (weak_c (weak_c (weak_c (weak_c (weak_c (weak_c (weak_n weak_nil)))))))) ?_
          refine e_loc ?_ ih
          rw [caS, if_pos (by simp [caB, h1, h2])]; rfl
      · refine e_iload_6 dX3_changedAgainst_28 rfl ?_
        refine e_iload_3 dX3_changedAgainst_30 rfl ?_
        refine e_nc_ge_f dX3_changedAgainst_31 rfl ⟨99, by decide⟩ (by omega) (by omega) (by omega) ?_
        refine e_aload_0 dX3_changedAgainst_34 rfl ?_
        refine e_getR dX3_changedAgainst_35 rfl lkX3_17 rfl ps_0 (by decide) (by decide) (mr_of hmr rfl) ?_
        refine e_iload_6 dX3_changedAgainst_38 rfl ?_
        refine e_aald dX3_changedAgainst_40 rfl ps_2 (by decide) (by decide) (by decide) rfl (by omega) (mr_of hmr (mr_order _ _)) ?_
        refine e_astore_7 dX3_changedAgainst_41 rfl (Nat.le_of_ble_eq_true rfl) rfl ?_
        refine e_aload_7 dX3_changedAgainst_43 rfl ?_
        refine e_aload_0 dX3_changedAgainst_45 rfl ?_
        refine e_getI dX3_changedAgainst_46 rfl lkX3_143 rfl ps_0 (by decide) (by decide) ?_
        refine e_callN dX3_changedAgainst_49 rfl csX3_170 (s_lastsOn hf (hod _ (by omega))) rfl rfl (ps_R (hod _ (by omega))) (by decide) (lt_RU (hod _ (by omega))) ⟨Nat.le_of_ble_eq_true rfl, Nat.le_of_ble_eq_true rfl⟩ ⟨Nat.le_of_ble_eq_true rfl, Nat.le_of_ble_eq_true rfl⟩ rfl rfl (Nat.le_of_ble_eq_true rfl) ?_
        refine e_if_eq_t (tgt := 93) dX3_changedAgainst_52 (by decide) (bI0 (Bool.not_eq_true _ |>.mp h1)) ?_
        refine e_iinc_6 (v := nI (a + i + 1)) dX3_changedAgainst_93 rfl (Nat.le_of_ble_eq_true rfl) rfl (nI_1 (a + i)) ?_
        refine e_goto (tgt := 28) dX3_changedAgainst_96 (by decide) ?_
        refine e_weak (weak_c (weak_c (weak_c (weak_c (weak_c (weak_c (weak_c (weak_n weak_nil)))))))) ?_
        refine e_loc ?_ ih
        rw [caS, if_neg (by simp [caB, h1])]; rfl
  · refine e_aload_0 dX3_changedAgainst_0 rfl ?_
    refine e_getR dX3_changedAgainst_1 rfl lkX3_17 rfl ps_0 (by decide) (by decide) (mr_of hmr rfl) ?_
    refine e_iload_1 dX3_changedAgainst_4 rfl ?_
    refine e_aald dX3_changedAgainst_5 rfl ps_2 (by decide) (by decide) (by decide) rfl (by omega) (mr_of hmr (mr_order _ _)) ?_
    refine e_astore_4 dX3_changedAgainst_6 rfl (Nat.le_of_ble_eq_true rfl) rfl ?_
    refine e_aload_4 dX3_changedAgainst_8 rfl ?_
    refine e_aload_0 dX3_changedAgainst_10 rfl ?_
    refine e_getI dX3_changedAgainst_11 rfl lkX3_143 rfl ps_0 (by decide) (by decide) ?_
    refine e_callN dX3_changedAgainst_14 rfl csX3_170 (s_lastsOn hf (hod _ hp)) rfl rfl (ps_R (hod _ hp)) (by decide) (lt_RU (hod _ hp)) ⟨Nat.le_of_ble_eq_true rfl, Nat.le_of_ble_eq_true rfl⟩ ⟨Nat.le_of_ble_eq_true rfl, Nat.le_of_ble_eq_true rfl⟩ rfl rfl (Nat.le_of_ble_eq_true rfl) ?_
    refine e_if_ne_f dX3_changedAgainst_17 rfl ⟨22, by decide⟩ (bI0 (Bool.not_eq_true _ |>.mp h0)) ?_
    refine e_iconst (v := nI 0) dX3_changedAgainst_20 rfl ic_0 ?_
    exact e_iret dX3_changedAgainst_21 rfl rfl (Nat.le_of_ble_eq_true rfl) (Nat.le_of_ble_eq_true rfl) (if_neg h0).symm rfl
def chE (M : pmM) (od : Nat → Nat) (fr to : Nat) : Int32 := if to < fr then caE M od fr to fr else caE M od fr (fr + 1) (to + 1)
theorem s_changedByShift {l : Launch} (hf : l.stackTraces = false) {M : pmM} {od : Nat → Nat} (hmr : M.2.1 = mrC od) (hod : ∀ p, p < 8 → od p < 8) {fr to : Nat} (h1 : fr < 8) (h2 : to < 8) : Sp l kX3_changedByShift 64 13 0 0 [.ref 0, .int (nI fr), .int (nI to)] M (.inl (some (.int (chE M od fr to)))) M := by
  refine sp_of hf (by decide +kernel) (Nat.le_of_ble_eq_true rfl) (by intro v hv; simp at hv; rcases hv with rfl | rfl | rfl <;> rfl) rfl ?_
  by_cases h : to < fr
  · refine e_iload_2 dX3_changedByShift_0 rfl ?_
    refine e_iload_1 dX3_changedByShift_1 rfl ?_
    refine e_nc_ge_f dX3_changedByShift_2 rfl ⟨15, by decide⟩ (by omega) (by omega) h ?_
    refine e_aload_0 dX3_changedByShift_5 rfl ?_
    refine e_iload_1 dX3_changedByShift_6 rfl ?_
    refine e_iload_2 dX3_changedByShift_7 rfl ?_
    refine e_iload_1 dX3_changedByShift_8 rfl ?_
    refine e_callV dX3_changedByShift_9 rfl csX3_316 (s_changedAgainst hf hmr hod h1 (Nat.le_of_lt h1) (Nat.le_of_lt h)) rfl rfl ps_0 (by decide) (by decide) ⟨Nat.le_of_ble_eq_true rfl, Nat.le_of_ble_eq_true rfl⟩ ⟨Nat.le_of_ble_eq_true rfl, Nat.le_of_ble_eq_true rfl⟩ rfl rfl (Nat.le_of_ble_eq_true rfl) ?_
    refine e_goto (tgt := 26) dX3_changedByShift_12 (by decide) ?_
    exact e_iret dX3_changedByShift_26 rfl rfl (Nat.le_of_ble_eq_true rfl) (Nat.le_of_ble_eq_true rfl) (if_pos h).symm rfl
  · refine e_iload_2 dX3_changedByShift_0 rfl ?_
    refine e_iload_1 dX3_changedByShift_1 rfl ?_
    refine e_nc_ge_t (tgt := 15) dX3_changedByShift_2 (by decide) (by omega) (by omega) (Nat.not_lt.mp h) ?_
    refine e_aload_0 dX3_changedByShift_15 rfl ?_
    refine e_iload_1 dX3_changedByShift_16 rfl ?_
    refine e_iload_1 dX3_changedByShift_17 rfl ?_
    refine e_iconst (v := nI 1) dX3_changedByShift_18 rfl ic_1 ?_
    refine e_iadd dX3_changedByShift_19 rfl ?_
    refine e_topi (nI (fr + 1)) (nI_add _ _) ?_
    refine e_iload_2 dX3_changedByShift_20 rfl ?_
    refine e_iconst (v := nI 1) dX3_changedByShift_21 rfl ic_1 ?_
    refine e_iadd dX3_changedByShift_22 rfl ?_
    refine e_topi (nI (to + 1)) (nI_add _ _) ?_
    refine e_callV dX3_changedByShift_23 rfl csX3_316 (s_changedAgainst hf hmr hod h1 h2 (by omega)) rfl rfl ps_0 (by decide) (by decide) ⟨Nat.le_of_ble_eq_true rfl, Nat.le_of_ble_eq_true rfl⟩ ⟨Nat.le_of_ble_eq_true rfl, Nat.le_of_ble_eq_true rfl⟩ rfl rfl (Nat.le_of_ble_eq_true rfl) ?_
    exact e_iret dX3_changedByShift_26 rfl rfl (Nat.le_of_ble_eq_true rfl) (Nat.le_of_ble_eq_true rfl) (if_neg h).symm rfl
def crE (M : pmM) (od : Nat → Nat) (rc p : Nat) : Int32 := if M.1 (31 + 3 * od p) 1 = nI 97 ∧ inF M od p = true then caE M od p (p + 1) rc + lbE M od (od p) (od p) (clr (ifN (inF M od) rc) p) else caE M od p (p + 1) rc
theorem s_changedByRemoval {l : Launch} (hf : l.stackTraces = false) {M : pmM} {od : Nat → Nat} (hmr : M.2.1 = mrC od) (hod : ∀ p, p < 8 → od p < 8) {rc : Nat} (hrc : M.1 0 3 = nI rc) (h8 : rc ≤ 8) {p : Nat} (hp : p < rc) : Sp l kX3_changedByRemoval 64 13 0 0 [.ref 0, .int (nI p)] M (.inl (some (.int (crE M od rc p)))) M := by
  refine sp_of hf (by decide +kernel) (Nat.le_of_ble_eq_true rfl) (by intro v hv; simp at hv; rcases hv with rfl | rfl <;> rfl) rfl ?_
  by_cases h1 : M.1 (31 + 3 * od p) 1 = nI 97
  · by_cases h2 : inF M od p = true
    · refine e_aload_0 dX3_changedByRemoval_0 rfl ?_
      refine e_getR dX3_changedByRemoval_1 rfl lkX3_17 rfl ps_0 (by decide) (by decide) (mr_of hmr rfl) ?_
      refine e_iload_1 dX3_changedByRemoval_4 rfl ?_
      refine e_aald dX3_changedByRemoval_5 rfl ps_2 (by decide) (by decide) (by decide) rfl (by omega) (mr_of hmr (mr_order _ _)) ?_
      refine e_astore_2 dX3_changedByRemoval_6 rfl (Nat.le_of_ble_eq_true rfl) rfl ?_
      refine e_aload_0 dX3_changedByRemoval_7 rfl ?_
      refine e_iload_1 dX3_changedByRemoval_8 rfl ?_
      refine e_iload_1 dX3_changedByRemoval_9 rfl ?_
      refine e_iconst (v := nI 1) dX3_changedByRemoval_10 rfl ic_1 ?_
      refine e_iadd dX3_changedByRemoval_11 rfl ?_
      refine e_topi (nI (p + 1)) (nI_add _ _) ?_
      refine e_aload_0 dX3_changedByRemoval_12 rfl ?_
      refine e_getI dX3_changedByRemoval_13 rfl lkX3_116 rfl ps_0 (by decide) (by decide) ?_
      refine e_topi (nI rc) hrc ?_
      refine e_callV dX3_changedByRemoval_16 rfl csX3_316 (s_changedAgainst hf hmr hod (by omega) h8 hp) rfl rfl ps_0 (by decide) (by decide) ⟨Nat.le_of_ble_eq_true rfl, Nat.le_of_ble_eq_true rfl⟩ ⟨Nat.le_of_ble_eq_true rfl, Nat.le_of_ble_eq_true rfl⟩ rfl rfl (Nat.le_of_ble_eq_true rfl) ?_
      refine e_istore_3 dX3_changedByRemoval_19 rfl (Nat.le_of_ble_eq_true rfl) rfl ?_
      refine e_aload_2 dX3_changedByRemoval_20 rfl ?_
      refine e_getI dX3_changedByRemoval_21 rfl lkX3_191 rfl (ps_R (hod _ (by omega))) (by decide) (lt_RU (hod _ (by omega))) ?_
      refine e_bipush (v := nI 97) dX3_changedByRemoval_24 rfl bc_97 ?_
      refine e_ic_ne_f dX3_changedByRemoval_26 rfl ⟨67, by decide⟩ h1 ?_
      refine e_aload_2 dX3_changedByRemoval_29 rfl ?_
      refine e_aload_0 dX3_changedByRemoval_30 rfl ?_
      refine e_getI dX3_changedByRemoval_31 rfl lkX3_143 rfl ps_0 (by decide) (by decide) ?_
      refine e_callN dX3_changedByRemoval_34 rfl csX3_170 (s_lastsOn hf (hod _ (by omega))) rfl rfl (ps_R (hod _ (by omega))) (by decide) (lt_RU (hod _ (by omega))) ⟨Nat.le_of_ble_eq_true rfl, Nat.le_of_ble_eq_true rfl⟩ ⟨Nat.le_of_ble_eq_true rfl, Nat.le_of_ble_eq_true rfl⟩ rfl rfl (Nat.le_of_ble_eq_true rfl) ?_
      refine e_if_eq_f dX3_changedByRemoval_37 rfl ⟨67, by decide⟩ (bI1 h2) ?_
      refine e_aload_0 dX3_changedByRemoval_40 rfl ?_
      refine e_aload_0 dX3_changedByRemoval_41 rfl ?_
      refine e_getI dX3_changedByRemoval_42 rfl lkX3_116 rfl ps_0 (by decide) (by decide) ?_
      refine e_topi (nI rc) hrc ?_
      refine e_callV dX3_changedByRemoval_45 rfl csX3_237 (s_inForceAhead hf hmr hod h8) rfl rfl ps_0 (by decide) (by decide) ⟨Nat.le_of_ble_eq_true rfl, Nat.le_of_ble_eq_true rfl⟩ ⟨Nat.le_of_ble_eq_true rfl, Nat.le_of_ble_eq_true rfl⟩ rfl rfl (Nat.le_of_ble_eq_true rfl) ?_
      refine e_iconst (v := nI 1) dX3_changedByRemoval_48 rfl ic_1 ?_
      refine e_iload_1 dX3_changedByRemoval_49 rfl ?_
      refine e_ishl dX3_changedByRemoval_50 rfl ?_
      refine e_iconst (v := -1) dX3_changedByRemoval_51 rfl ic_m1 ?_
      refine e_ixor dX3_changedByRemoval_52 rfl ?_
      refine e_iand dX3_changedByRemoval_53 rfl ?_
      refine e_topi (nI (clr (ifN (inF M od) rc) p)) (clr_eq (ifN_256 _ h8) (by omega)) ?_
      refine e_istore_4 dX3_changedByRemoval_54 rfl (Nat.le_of_ble_eq_true rfl) rfl ?_
      refine e_iload_3 dX3_changedByRemoval_56 rfl ?_
      refine e_aload_0 dX3_changedByRemoval_57 rfl ?_
      refine e_aload_2 dX3_changedByRemoval_58 rfl ?_
      refine e_aload_2 dX3_changedByRemoval_59 rfl ?_
      refine e_iload_4 dX3_changedByRemoval_60 rfl ?_
      refine e_callV dX3_changedByRemoval_62 rfl csX3_284 (s_leftOfBoth hf hmr hod (hod _ (by omega)) (hod _ (by omega)) (clr_lt (ifN_256 _ h8))) rfl rfl ps_0 (by decide) (by decide) ⟨Nat.le_of_ble_eq_true rfl, Nat.le_of_ble_eq_true rfl⟩ ⟨Nat.le_of_ble_eq_true rfl, Nat.le_of_ble_eq_true rfl⟩ rfl rfl (Nat.le_of_ble_eq_true rfl) ?_
      refine e_iadd dX3_changedByRemoval_65 rfl ?_
      refine e_istore_3 dX3_changedByRemoval_66 rfl (Nat.le_of_ble_eq_true rfl) rfl ?_
      refine e_iload_3 dX3_changedByRemoval_67 rfl ?_
      exact e_iret dX3_changedByRemoval_68 rfl rfl (Nat.le_of_ble_eq_true rfl) (Nat.le_of_ble_eq_true rfl) (if_pos ⟨h1, h2⟩).symm rfl
    · refine e_aload_0 dX3_changedByRemoval_0 rfl ?_
      refine e_getR dX3_changedByRemoval_1 rfl lkX3_17 rfl ps_0 (by decide) (by decide) (mr_of hmr rfl) ?_
      refine e_iload_1 dX3_changedByRemoval_4 rfl ?_
      refine e_aald dX3_changedByRemoval_5 rfl ps_2 (by decide) (by decide) (by decide) rfl (by omega) (mr_of hmr (mr_order _ _)) ?_
      refine e_astore_2 dX3_changedByRemoval_6 rfl (Nat.le_of_ble_eq_true rfl) rfl ?_
      refine e_aload_0 dX3_changedByRemoval_7 rfl ?_
      refine e_iload_1 dX3_changedByRemoval_8 rfl ?_
      refine e_iload_1 dX3_changedByRemoval_9 rfl ?_
      refine e_iconst (v := nI 1) dX3_changedByRemoval_10 rfl ic_1 ?_
      refine e_iadd dX3_changedByRemoval_11 rfl ?_
      refine e_topi (nI (p + 1)) (nI_add _ _) ?_
      refine e_aload_0 dX3_changedByRemoval_12 rfl ?_
      refine e_getI dX3_changedByRemoval_13 rfl lkX3_116 rfl ps_0 (by decide) (by decide) ?_
      refine e_topi (nI rc) hrc ?_
      refine e_callV dX3_changedByRemoval_16 rfl csX3_316 (s_changedAgainst hf hmr hod (by omega) h8 hp) rfl rfl ps_0 (by decide) (by decide) ⟨Nat.le_of_ble_eq_true rfl, Nat.le_of_ble_eq_true rfl⟩ ⟨Nat.le_of_ble_eq_true rfl, Nat.le_of_ble_eq_true rfl⟩ rfl rfl (Nat.le_of_ble_eq_true rfl) ?_
      refine e_istore_3 dX3_changedByRemoval_19 rfl (Nat.le_of_ble_eq_true rfl) rfl ?_
      refine e_aload_2 dX3_changedByRemoval_20 rfl ?_
      refine e_getI dX3_changedByRemoval_21 rfl lkX3_191 rfl (ps_R (hod _ (by omega))) (by decide) (lt_RU (hod _ (by omega))) ?_
      refine e_bipush (v := nI 97) dX3_changedByRemoval_24 rfl bc_97 ?_
      refine e_ic_ne_f dX3_changedByRemoval_26 rfl ⟨67, by decide⟩ h1 ?_
      refine e_aload_2 dX3_changedByRemoval_29 rfl ?_
      refine e_aload_0 dX3_changedByRemoval_30 rfl ?_
      refine e_getI dX3_changedByRemoval_31 rfl lkX3_143 rfl ps_0 (by decide) (by decide) ?_
      refine e_callN dX3_changedByRemoval_34 rfl csX3_170 (s_lastsOn hf (hod _ (by omega))) rfl rfl (ps_R (hod _ (by omega))) (by decide) (lt_RU (hod _ (by omega))) ⟨Nat.le_of_ble_eq_true rfl, Nat.le_of_ble_eq_true rfl⟩ ⟨Nat.le_of_ble_eq_true rfl, Nat.le_of_ble_eq_true rfl⟩ rfl rfl (Nat.le_of_ble_eq_true rfl) ?_
      refine e_if_eq_t (tgt := 67) dX3_changedByRemoval_37 (by decide) (bI0 (Bool.not_eq_true _ |>.mp h2)) ?_
      refine e_iload_3 dX3_changedByRemoval_67 rfl ?_
      exact e_iret dX3_changedByRemoval_68 rfl rfl (Nat.le_of_ble_eq_true rfl) (Nat.le_of_ble_eq_true rfl) (if_neg (fun q => h2 q.2)).symm rfl
  · refine e_aload_0 dX3_changedByRemoval_0 rfl ?_
    refine e_getR dX3_changedByRemoval_1 rfl lkX3_17 rfl ps_0 (by decide) (by decide) (mr_of hmr rfl) ?_
    refine e_iload_1 dX3_changedByRemoval_4 rfl ?_
    refine e_aald dX3_changedByRemoval_5 rfl ps_2 (by decide) (by decide) (by decide) rfl (by omega) (mr_of hmr (mr_order _ _)) ?_
    refine e_astore_2 dX3_changedByRemoval_6 rfl (Nat.le_of_ble_eq_true rfl) rfl ?_
    refine e_aload_0 dX3_changedByRemoval_7 rfl ?_
    refine e_iload_1 dX3_changedByRemoval_8 rfl ?_
    refine e_iload_1 dX3_changedByRemoval_9 rfl ?_
    refine e_iconst (v := nI 1) dX3_changedByRemoval_10 rfl ic_1 ?_
    refine e_iadd dX3_changedByRemoval_11 rfl ?_
    refine e_topi (nI (p + 1)) (nI_add _ _) ?_
    refine e_aload_0 dX3_changedByRemoval_12 rfl ?_
    refine e_getI dX3_changedByRemoval_13 rfl lkX3_116 rfl ps_0 (by decide) (by decide) ?_
    refine e_topi (nI rc) hrc ?_
    refine e_callV dX3_changedByRemoval_16 rfl csX3_316 (s_changedAgainst hf hmr hod (by omega) h8 hp) rfl rfl ps_0 (by decide) (by decide) ⟨Nat.le_of_ble_eq_true rfl, Nat.le_of_ble_eq_true rfl⟩ ⟨Nat.le_of_ble_eq_true rfl, Nat.le_of_ble_eq_true rfl⟩ rfl rfl (Nat.le_of_ble_eq_true rfl) ?_
    refine e_istore_3 dX3_changedByRemoval_19 rfl (Nat.le_of_ble_eq_true rfl) rfl ?_
    refine e_aload_2 dX3_changedByRemoval_20 rfl ?_
    refine e_getI dX3_changedByRemoval_21 rfl lkX3_191 rfl (ps_R (hod _ (by omega))) (by decide) (lt_RU (hod _ (by omega))) ?_
    refine e_bipush (v := nI 97) dX3_changedByRemoval_24 rfl bc_97 ?_
    refine e_ic_ne_t (tgt := 67) dX3_changedByRemoval_26 (by decide) h1 ?_
    refine e_iload_3 dX3_changedByRemoval_67 rfl ?_
    exact e_iret dX3_changedByRemoval_68 rfl rfl (Nat.le_of_ble_eq_true rfl) (Nat.le_of_ble_eq_true rfl) (if_neg (fun q => h1 q.1)).symm rfl
