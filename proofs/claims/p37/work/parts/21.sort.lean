/-! ===== FilterRules: the order by hits ===== -/
theorem shO_lt {od : Nat → Nat} (hod : ∀ p, p < 8 → od p < 8) {fr to : Nat} (h1 : fr < 8) (h2 : to < 8) : ∀ p, p < 8 → shO od fr to p < 8 := fun p hp => by
  unfold shO
  repeat' split
  all_goals exact hod _ (by omega)
def swB (M : pmM) (od : Nat → Nat) (i : Nat) : Bool := decide (M.1 (31 + 3 * od i) 5 < M.1 (31 + 3 * od (i + 1)) 5) && decide (chE M od i (i + 1) = 0)
def swF (M : pmM) (od : Nat → Nat) : Nat → (Nat → Nat) × Nat
  | 0 => (od, 0)
  | i + 1 => if swB M (swF M od i).1 i = true then (shO (swF M od i).1 i (i + 1), (swF M od i).2 + 1) else swF M od i
theorem swF_lt {M : pmM} {od : Nat → Nat} (hod : ∀ p, p < 8 → od p < 8) : ∀ n, n < 8 → ∀ p, p < 8 → (swF M od n).1 p < 8
  | 0, _ => hod
  | n + 1, hn => by
    have ih := swF_lt (M := M) hod n (by omega)
    rw [swF]
    split
    · exact shO_lt ih (by omega) (by omega)
    · exact ih
theorem swF_cnt (M : pmM) (od : Nat → Nat) : ∀ n, (swF M od n).2 ≤ n
  | 0 => Nat.le_refl 0
  | n + 1 => by
    have ih := swF_cnt M od n
    rw [swF]
    split
    · show (swF M od n).2 + 1 ≤ n + 1; omega
    · omega
def soF (M : pmM) (rc : Nat) : Nat → (Nat → Nat) → Nat → (Nat → Nat) × Nat
  | 0, od, s => (od, s)
  | n + 1, od, s => if (swF M od (rc - 1)).2 = 0 then ((swF M od (rc - 1)).1, s) else soF M rc n (swF M od (rc - 1)).1 (s + (swF M od (rc - 1)).2)
theorem loE_1 {M M' : pmM} (h : M'.1 = M.1) (od : Nat → Nat) : ∀ (f m : Nat) (s t v : Int32), loE M' od f m s t v = loE M od f m s t v
  | 0, _, _, _, _ => rfl
  | f + 1, m, s, t, v => by
    rw [loE, loE, h]
    simp only [loE_1 h od f]
theorem lbE_1 {M M' : pmM} (h : M'.1 = M.1) (od : Nat → Nat) (j k m : Nat) : lbE M' od j k m = lbE M od j k m := by unfold lbE; rw [loE_1 h, h]
theorem inF_1 {M M' : pmM} (h : M'.1 = M.1) (od : Nat → Nat) : inF M' od = inF M od := funext fun p => by unfold inF; rw [h]
theorem caB_1 {M M' : pmM} (h : M'.1 = M.1) (od : Nat → Nat) (pos i : Nat) : caB M' od pos i = caB M od pos i := by unfold caB; rw [inF_1 h, h]
theorem caS_1 {M M' : pmM} (h : M'.1 = M.1) (od : Nat → Nat) (pos a : Nat) : ∀ n, caS M' od pos a n = caS M od pos a n
  | 0 => rfl
  | n + 1 => by rw [caS, caS, caB_1 h, lbE_1 h, inF_1 h, caS_1 h od pos a n]
theorem caE_1 {M M' : pmM} (h : M'.1 = M.1) (od : Nat → Nat) (pos a e : Nat) : caE M' od pos a e = caE M od pos a e := by unfold caE; rw [inF_1 h, caS_1 h]
theorem chE_1 {M M' : pmM} (h : M'.1 = M.1) (od : Nat → Nat) (fr to : Nat) : chE M' od fr to = chE M od fr to := by unfold chE; rw [caE_1 h, caE_1 h]
theorem swB_1 {M M' : pmM} (h : M'.1 = M.1) (od : Nat → Nat) (i : Nat) : swB M' od i = swB M od i := by unfold swB; rw [chE_1 h, h]
theorem swF_1 {M M' : pmM} (h : M'.1 = M.1) (od : Nat → Nat) : ∀ n, swF M' od n = swF M od n
  | 0 => rfl
  | n + 1 => by rw [swF, swF, swF_1 h od n, swB_1 h]
theorem odM_odM (M : pmM) (od od' : Nat → Nat) : odM (odM M od) od' = odM M od' := rfl
theorem nI_0s : nI 0 - nI 1 = -1 := by decide
theorem s_swapByHits {l : Launch} (hf : l.stackTraces = false) {M : pmM} {od : Nat → Nat} (hmr : M.2.1 = mrC od) (hod : ∀ p, p < 8 → od p < 8) {rc : Nat} (hrc : M.1 0 3 = nI rc) (h8 : rc ≤ 8) : Sp l kX3_swapByHits 64 14 0 0 [.ref 0] M (.inl (some (.int (nI (swF M od (rc - 1)).2)))) (odM M (swF M od (rc - 1)).1) := by
  refine sp_of hf (by decide +kernel) (Nat.le_of_ble_eq_true rfl) (by intro v hv; simp at hv; subst hv; rfl) rfl ?_
  by_cases h0 : rc = 0
  · subst h0
    refine e_iconst (v := nI 0) dX3_swapByHits_0 rfl ic_0 ?_
    refine e_istore_1 dX3_swapByHits_1 rfl (Nat.le_of_ble_eq_true rfl) rfl ?_
    refine e_iconst (v := nI 0) dX3_swapByHits_2 rfl ic_0 ?_
    refine e_istore_2 dX3_swapByHits_3 rfl (Nat.le_of_ble_eq_true rfl) rfl ?_
    refine e_iload_2 dX3_swapByHits_4 rfl ?_
    refine e_aload_0 dX3_swapByHits_5 rfl ?_
    refine e_getI dX3_swapByHits_6 rfl lkX3_116 rfl ps_0 (by decide) (by decide) ?_
    refine e_topi (nI 0) hrc ?_
    refine e_iconst (v := nI 1) dX3_swapByHits_9 rfl ic_1 ?_
    refine e_isub dX3_swapByHits_10 rfl ?_
    refine e_topi (-1) nI_0s ?_
    refine e_ic_ge_t (tgt := 65) dX3_swapByHits_11 (by decide) (by decide) ?_
    refine e_iload_1 dX3_swapByHits_65 rfl ?_
    exact e_iret dX3_swapByHits_66 rfl rfl (Nat.le_of_ble_eq_true rfl) (Nat.le_of_ble_eq_true rfl) rfl (odM_self hmr)
  refine e_mem (M1 := odM M (swF M od 0).1) (odM_self hmr) ?_
  refine e_iconst (v := nI 0) dX3_swapByHits_0 rfl ic_0 ?_
  refine e_istore_1 dX3_swapByHits_1 rfl (Nat.le_of_ble_eq_true rfl) rfl ?_
  refine e_iconst (v := nI 0) dX3_swapByHits_2 rfl ic_0 ?_
  refine e_istore_2 dX3_swapByHits_3 rfl (Nat.le_of_ble_eq_true rfl) rfl ?_
  refine loop_up (P := fun i => Ev l kX3_swapByHits (gM 64 0 0 (.inl (some (.int (nI (swF M od (rc - 1)).2)))) (odM M (swF M od (rc - 1)).1)) (rmd 14 0 0) 64 0 0 4 [some (.ref 0), some (.int (nI (swF M od i).2)), some (.int (nI i))] [] (odM M (swF M od i).1)) ?_ (fun i hi ih => ?_) 0 (Nat.zero_le (rc - 1))
  · refine e_iload_2 dX3_swapByHits_4 rfl ?_
    refine e_aload_0 dX3_swapByHits_5 rfl ?_
    refine e_getI dX3_swapByHits_6 rfl lkX3_116 rfl ps_0 (by decide) (by decide) ?_
    refine e_topi (nI rc) hrc ?_
    refine e_iconst (v := nI 1) dX3_swapByHits_9 rfl ic_1 ?_
    refine e_isub dX3_swapByHits_10 rfl ?_
    refine e_topi (nI (rc - 1)) (pk_sub (by omega)) ?_
    refine e_nc_ge_t (tgt := 65) dX3_swapByHits_11 (by decide) (by omega) (by omega) (Nat.le_refl _) ?_
    refine e_iload_1 dX3_swapByHits_65 rfl ?_
    exact e_iret dX3_swapByHits_66 rfl rfl (Nat.le_of_ble_eq_true rfl) (Nat.le_of_ble_eq_true rfl) rfl rfl
  · have he := swF_lt (M := M) hod i (by omega)
    have hk := swF_cnt M od i
    rw [show swF M od (i + 1) = if swB M (swF M od i).1 i = true then (shO (swF M od i).1 i (i + 1), (swF M od i).2 + 1) else ((swF M od i).1, (swF M od i).2) from rfl] at ih
    generalize (swF M od i).2 = k at ih hk ⊢
    generalize (swF M od i).1 = e at ih he ⊢
    by_cases h1 : M.1 (31 + 3 * e i) 5 < M.1 (31 + 3 * e (i + 1)) 5
    · by_cases h2 : chE M e i (i + 1) = 0
      · rw [if_pos (show swB M e i = true by unfold swB; rw [decide_eq_true h1, decide_eq_true h2]; rfl)] at ih
        refine e_iload_2 dX3_swapByHits_4 rfl ?_
        refine e_aload_0 dX3_swapByHits_5 rfl ?_
        refine e_getI dX3_swapByHits_6 rfl lkX3_116 rfl ps_0 (by decide) (by decide) ?_
        refine e_topi (nI rc) hrc ?_
        refine e_iconst (v := nI 1) dX3_swapByHits_9 rfl ic_1 ?_
        refine e_isub dX3_swapByHits_10 rfl ?_
        refine e_topi (nI (rc - 1)) (pk_sub (by omega)) ?_
        refine e_nc_ge_f dX3_swapByHits_11 rfl ⟨65, by decide⟩ (by omega) (by omega) hi ?_
        refine e_aload_0 dX3_swapByHits_14 rfl ?_
        refine e_getR dX3_swapByHits_15 rfl lkX3_17 rfl ps_0 (by decide) (by decide) (mr_of rfl rfl) ?_
        refine e_iload_2 dX3_swapByHits_18 rfl ?_
        refine e_iconst (v := nI 1) dX3_swapByHits_19 rfl ic_1 ?_
        refine e_iadd dX3_swapByHits_20 rfl ?_
        refine e_topi (nI (i + 1)) (nI_add _ _) ?_
        refine e_aald dX3_swapByHits_21 rfl ps_2 (by decide) (by decide) (by decide) rfl (by omega) (mr_of rfl (mr_order _ _)) ?_
        refine e_getI dX3_swapByHits_22 rfl lkX3_195 rfl (ps_R (he _ (by omega))) (by decide) (lt_RU (he _ (by omega))) ?_
        refine e_aload_0 dX3_swapByHits_25 rfl ?_
        refine e_getR dX3_swapByHits_26 rfl lkX3_17 rfl ps_0 (by decide) (by decide) (mr_of rfl rfl) ?_
        refine e_iload_2 dX3_swapByHits_29 rfl ?_
        refine e_aald dX3_swapByHits_30 rfl ps_2 (by decide) (by decide) (by decide) rfl (by omega) (mr_of rfl (mr_order _ _)) ?_
        refine e_getI dX3_swapByHits_31 rfl lkX3_195 rfl (ps_R (he _ (by omega))) (by decide) (lt_RU (he _ (by omega))) ?_
        refine e_ic_le_f dX3_swapByHits_34 rfl ⟨59, by decide⟩ (Int32.not_le.mpr h1) ?_
        refine e_aload_0 dX3_swapByHits_37 rfl ?_
        refine e_iload_2 dX3_swapByHits_38 rfl ?_
        refine e_iload_2 dX3_swapByHits_39 rfl ?_
        refine e_iconst (v := nI 1) dX3_swapByHits_40 rfl ic_1 ?_
        refine e_iadd dX3_swapByHits_41 rfl ?_
        refine e_topi (nI (i + 1)) (nI_add _ _) ?_
        refine e_callV dX3_swapByHits_42 rfl csX3_224 (s_changedByShift (M := odM M e) (od := e) hf rfl he (by omega) (by omega)) rfl rfl ps_0 (by decide) (by decide) ⟨Nat.le_of_ble_eq_true rfl, Nat.le_of_ble_eq_true rfl⟩ ⟨Nat.le_of_ble_eq_true rfl, Nat.le_of_ble_eq_true rfl⟩ rfl rfl (Nat.le_of_ble_eq_true rfl) ?_
        refine e_if_ne_f dX3_swapByHits_45 rfl ⟨59, by decide⟩ ((chE_1 (M := M) (M' := odM M e) rfl e i (i + 1)).trans h2) ?_
        refine e_aload_0 dX3_swapByHits_48 rfl ?_
        refine e_iload_2 dX3_swapByHits_49 rfl ?_
        refine e_iload_2 dX3_swapByHits_50 rfl ?_
        refine e_iconst (v := nI 1) dX3_swapByHits_51 rfl ic_1 ?_
        refine e_iadd dX3_swapByHits_52 rfl ?_
        refine e_topi (nI (i + 1)) (nI_add _ _) ?_
        refine e_callV dX3_swapByHits_53 rfl csX3_150 (s_shift (M := odM M e) (od := e) hf rfl he (by omega) (by omega)) rfl rfl ps_0 (by decide) (by decide) ⟨Nat.le_of_ble_eq_true rfl, Nat.le_of_ble_eq_true rfl⟩ ⟨Nat.le_of_ble_eq_true rfl, Nat.le_of_ble_eq_true rfl⟩ rfl rfl (Nat.le_of_ble_eq_true rfl) ?_
        refine e_iinc_1 (v := nI (k + 1)) dX3_swapByHits_56 rfl (Nat.le_of_ble_eq_true rfl) rfl (nI_1 k) ?_
        refine e_iinc_2 (v := nI (i + 1)) dX3_swapByHits_59 rfl (Nat.le_of_ble_eq_true rfl) rfl (nI_1 i) ?_
        refine e_goto (tgt := 4) dX3_swapByHits_62 (by decide) ?_
        exact ih
      · rw [if_neg (show ¬ swB M e i = true by unfold swB; rw [decide_eq_false h2, Bool.and_false]; decide)] at ih
        refine e_iload_2 dX3_swapByHits_4 rfl ?_
        refine e_aload_0 dX3_swapByHits_5 rfl ?_
        refine e_getI dX3_swapByHits_6 rfl lkX3_116 rfl ps_0 (by decide) (by decide) ?_
        refine e_topi (nI rc) hrc ?_
        refine e_iconst (v := nI 1) dX3_swapByHits_9 rfl ic_1 ?_
        refine e_isub dX3_swapByHits_10 rfl ?_
        refine e_topi (nI (rc - 1)) (pk_sub (by omega)) ?_
        refine e_nc_ge_f dX3_swapByHits_11 rfl ⟨65, by decide⟩ (by omega) (by omega) hi ?_
        refine e_aload_0 dX3_swapByHits_14 rfl ?_
        refine e_getR dX3_swapByHits_15 rfl lkX3_17 rfl ps_0 (by decide) (by decide) (mr_of rfl rfl) ?_
        refine e_iload_2 dX3_swapByHits_18 rfl ?_
        refine e_iconst (v := nI 1) dX3_swapByHits_19 rfl ic_1 ?_
        refine e_iadd dX3_swapByHits_20 rfl ?_
        refine e_topi (nI (i + 1)) (nI_add _ _) ?_
        refine e_aald dX3_swapByHits_21 rfl ps_2 (by decide) (by decide) (by decide) rfl (by omega) (mr_of rfl (mr_order _ _)) ?_
        refine e_getI dX3_swapByHits_22 rfl lkX3_195 rfl (ps_R (he _ (by omega))) (by decide) (lt_RU (he _ (by omega))) ?_
        refine e_aload_0 dX3_swapByHits_25 rfl ?_
        refine e_getR dX3_swapByHits_26 rfl lkX3_17 rfl ps_0 (by decide) (by decide) (mr_of rfl rfl) ?_
        refine e_iload_2 dX3_swapByHits_29 rfl ?_
        refine e_aald dX3_swapByHits_30 rfl ps_2 (by decide) (by decide) (by decide) rfl (by omega) (mr_of rfl (mr_order _ _)) ?_
        refine e_getI dX3_swapByHits_31 rfl lkX3_195 rfl (ps_R (he _ (by omega))) (by decide) (lt_RU (he _ (by omega))) ?_
        refine e_ic_le_f dX3_swapByHits_34 rfl ⟨59, by decide⟩ (Int32.not_le.mpr h1) ?_
        refine e_aload_0 dX3_swapByHits_37 rfl ?_
        refine e_iload_2 dX3_swapByHits_38 rfl ?_
        refine e_iload_2 dX3_swapByHits_39 rfl ?_
        refine e_iconst (v := nI 1) dX3_swapByHits_40 rfl ic_1 ?_
        refine e_iadd dX3_swapByHits_41 rfl ?_
        refine e_topi (nI (i + 1)) (nI_add _ _) ?_
        refine e_callV dX3_swapByHits_42 rfl csX3_224 (s_changedByShift (M := odM M e) (od := e) hf rfl he (by omega) (by omega)) rfl rfl ps_0 (by decide) (by decide) ⟨Nat.le_of_ble_eq_true rfl, Nat.le_of_ble_eq_true rfl⟩ ⟨Nat.le_of_ble_eq_true rfl, Nat.le_of_ble_eq_true rfl⟩ rfl rfl (Nat.le_of_ble_eq_true rfl) ?_
        refine e_if_ne_t (tgt := 59) dX3_swapByHits_45 (by decide) (fun z => h2 ((chE_1 (M := M) (M' := odM M e) rfl e i (i + 1)).symm.trans z)) ?_
        refine e_iinc_2 (v := nI (i + 1)) dX3_swapByHits_59 rfl (Nat.le_of_ble_eq_true rfl) rfl (nI_1 i) ?_
        refine e_goto (tgt := 4) dX3_swapByHits_62 (by decide) ?_
        exact ih
    · rw [if_neg (show ¬ swB M e i = true by unfold swB; rw [decide_eq_false h1, Bool.false_and]; decide)] at ih
      refine e_iload_2 dX3_swapByHits_4 rfl ?_
      refine e_aload_0 dX3_swapByHits_5 rfl ?_
      refine e_getI dX3_swapByHits_6 rfl lkX3_116 rfl ps_0 (by decide) (by decide) ?_
      refine e_topi (nI rc) hrc ?_
      refine e_iconst (v := nI 1) dX3_swapByHits_9 rfl ic_1 ?_
      refine e_isub dX3_swapByHits_10 rfl ?_
      refine e_topi (nI (rc - 1)) (pk_sub (by omega)) ?_
      refine e_nc_ge_f dX3_swapByHits_11 rfl ⟨65, by decide⟩ (by omega) (by omega) hi ?_
      refine e_aload_0 dX3_swapByHits_14 rfl ?_
      refine e_getR dX3_swapByHits_15 rfl lkX3_17 rfl ps_0 (by decide) (by decide) (mr_of rfl rfl) ?_
      refine e_iload_2 dX3_swapByHits_18 rfl ?_
      refine e_iconst (v := nI 1) dX3_swapByHits_19 rfl ic_1 ?_
      refine e_iadd dX3_swapByHits_20 rfl ?_
      refine e_topi (nI (i + 1)) (nI_add _ _) ?_
      refine e_aald dX3_swapByHits_21 rfl ps_2 (by decide) (by decide) (by decide) rfl (by omega) (mr_of rfl (mr_order _ _)) ?_
      refine e_getI dX3_swapByHits_22 rfl lkX3_195 rfl (ps_R (he _ (by omega))) (by decide) (lt_RU (he _ (by omega))) ?_
      refine e_aload_0 dX3_swapByHits_25 rfl ?_
      refine e_getR dX3_swapByHits_26 rfl lkX3_17 rfl ps_0 (by decide) (by decide) (mr_of rfl rfl) ?_
      refine e_iload_2 dX3_swapByHits_29 rfl ?_
      refine e_aald dX3_swapByHits_30 rfl ps_2 (by decide) (by decide) (by decide) rfl (by omega) (mr_of rfl (mr_order _ _)) ?_
      refine e_getI dX3_swapByHits_31 rfl lkX3_195 rfl (ps_R (he _ (by omega))) (by decide) (lt_RU (he _ (by omega))) ?_
      refine e_ic_le_t (tgt := 59) dX3_swapByHits_34 (by decide) (Int32.not_lt.mp h1) ?_
      refine e_iinc_2 (v := nI (i + 1)) dX3_swapByHits_59 rfl (Nat.le_of_ble_eq_true rfl) rfl (nI_1 i) ?_
      refine e_goto (tgt := 4) dX3_swapByHits_62 (by decide) ?_
      exact ih
theorem s_sortByHits {l : Launch} (hf : l.stackTraces = false) {M : pmM} {od : Nat → Nat} (hmr : M.2.1 = mrC od) (hod : ∀ p, p < 8 → od p < 8) {rc : Nat} (hrc : M.1 0 3 = nI rc) (h8 : rc ≤ 8) : Sp l kX3_sortByHits 64 15 0 0 [.ref 0] M (.inl (some (.int (nI (soF M rc 64 od 0).2)))) (odM M (soF M rc 64 od 0).1) := by
  refine sp_of hf (by decide +kernel) (Nat.le_of_ble_eq_true rfl) (by intro v hv; simp at hv; subst hv; rfl) rfl ?_
  have H : ∀ (n s k : Nat) (e : Nat → Nat), (∀ p, p < 8 → e p < 8) → k + n = 64 → s ≤ 8 * k → soF M rc n e s = soF M rc 64 od 0 → Ev l kX3_sortByHits (gM 64 0 0 (.inl (some (.int (nI (soF M rc 64 od 0).2)))) (odM M (soF M rc 64 od 0).1)) (rmd 15 0 0) 64 0 0 4 [some (.ref 0), some (.int (nI s)), some (.int (nI k)), none] [] (odM M e) := by
    intro n
    induction n with
    | zero =>
      intro s k e he hk hs hq
      refine e_iload_2 dX3_sortByHits_4 rfl ?_
      refine e_bipush (v := nI 64) dX3_sortByHits_5 rfl bc_64 ?_
      refine e_nc_ge_t (tgt := 31) dX3_sortByHits_7 (by decide) (by omega) (by omega) (by omega) ?_
      refine e_iload_1 dX3_sortByHits_31 rfl ?_
      exact e_iret dX3_sortByHits_32 rfl rfl (Nat.le_of_ble_eq_true rfl) (Nat.le_of_ble_eq_true rfl) (by rw [← hq]; rfl) (by rw [← hq]; rfl)
    | succ n ihn =>
      intro s k e he hk hs hq
      have hc := swF_cnt M e (rc - 1)
      rw [soF] at hq
      have he2 := swF_lt (M := M) he (rc - 1) (by omega)
      refine e_iload_2 dX3_sortByHits_4 rfl ?_
      refine e_bipush (v := nI 64) dX3_sortByHits_5 rfl bc_64 ?_
      refine e_nc_ge_f dX3_sortByHits_7 rfl ⟨31, by decide⟩ (by omega) (by omega) (by omega) ?_
      refine e_aload_0 dX3_sortByHits_10 rfl ?_
      refine e_callV dX3_sortByHits_11 rfl csX3_229 (s_swapByHits (M := odM M e) (od := e) hf rfl he hrc h8) rfl rfl ps_0 (by decide) (by decide) ⟨Nat.le_of_ble_eq_true rfl, Nat.le_of_ble_eq_true rfl⟩ ⟨Nat.le_of_ble_eq_true rfl, Nat.le_of_ble_eq_true rfl⟩ rfl rfl (Nat.le_of_ble_eq_true rfl) ?_
      rw [swF_1 (M := M) (show (odM M e).1 = M.1 from rfl) e (rc - 1)]
      refine e_istore_3 dX3_sortByHits_14 rfl (Nat.le_of_ble_eq_true rfl) rfl ?_
      refine e_iload_3 dX3_sortByHits_15 rfl ?_
      by_cases hz : (swF M e (rc - 1)).2 = 0
      · rw [if_pos hz] at hq
        refine e_if_ne_f dX3_sortByHits_16 rfl ⟨21, by decide⟩ (show nI (swF M e (rc - 1)).2 = 0 by rw [hz]; rfl) ?_
        refine e_iload_1 dX3_sortByHits_19 rfl ?_
        exact e_iret dX3_sortByHits_20 rfl rfl (Nat.le_of_ble_eq_true rfl) (Nat.le_of_ble_eq_true rfl) (by rw [← hq]) (by rw [← hq]; rfl)
      · rw [if_neg hz] at hq
        refine e_if_ne_t (tgt := 21) dX3_sortByHits_16 (by decide) (nI_ne0 (Nat.pos_of_ne_zero hz) (by omega)) ?_
        refine e_iload_1 dX3_sortByHits_21 rfl ?_
        refine e_iload_3 dX3_sortByHits_22 rfl ?_
        refine e_iadd dX3_sortByHits_23 rfl ?_
        refine e_topi (nI (s + (swF M e (rc - 1)).2)) (nI_add _ _) ?_
        refine e_istore_1 dX3_sortByHits_24 rfl (Nat.le_of_ble_eq_true rfl) rfl ?_
        refine e_iinc_2 (v := nI (k + 1)) dX3_sortByHits_25 rfl (Nat.le_of_ble_eq_true rfl) rfl (nI_1 k) ?_
        refine e_goto (tgt := 4) dX3_sortByHits_28 (by decide) ?_
        refine e_weak (weak_c (weak_c (weak_c (weak_n weak_nil)))) ?_
        exact ihn _ _ _ he2 (by omega) (by omega) hq
  refine e_mem (M1 := odM M od) (odM_self hmr) ?_
  refine e_iconst (v := nI 0) dX3_sortByHits_0 rfl ic_0 ?_
  refine e_istore_1 dX3_sortByHits_1 rfl (Nat.le_of_ble_eq_true rfl) rfl ?_
  refine e_iconst (v := nI 0) dX3_sortByHits_2 rfl ic_0 ?_
  refine e_istore_2 dX3_sortByHits_3 rfl (Nat.le_of_ble_eq_true rfl) rfl ?_
  exact H 64 0 0 od hod rfl (Nat.le_refl 0) rfl
