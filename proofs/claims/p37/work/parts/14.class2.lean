/-! ===== FilterRules: rules, what they match and decide ===== -/
/-- the field of a rule: none, or the number of an object -/
def fOk (x : Int32) : Prop := x = -1 ∨ ∃ o : Nat, o < 8 ∧ x = nI o
def ixN (x : Int32) : Nat := x.toNatClampNeg
theorem ixN_nI {o : Nat} (h : o < 8) : ixN (nI o) = o := nI_clamp (by omega)
theorem nI_m1 {o : Nat} (h : o < 8) : ¬ nI o = -1 := (show ∀ o, o < 8 → ¬ nI o = -1 by decide +kernel) o h
def ionF (M : pmM) (x : Int32) (k : Nat) : Bool := decide (x ≠ -1) && (decide (x = nI k) || ndF M 8 (ixN x) k)
def mtv (M : pmM) (rg : Nat → Nat) (x : Int32) : Int32 := if x = -1 then -1 else voF M rg 8 (ixN x)
theorem s_isOrNeeds {l : Launch} (hf : l.stackTraces = false) {M : pmM} {od : Nat → Nat} (hmr : M.2.1 = mrC od) {x : Int32} (hx : fOk x) {k : Nat} (hk : k < 8) : Sp l kX3_isOrNeeds 64 10 0 0 [.ref 0, .int x, .int (nI k)] M (.inl (some (.int (bI (ionF M x k))))) M := by
  refine sp_of hf (by decide +kernel) (Nat.le_of_ble_eq_true rfl) (by intro v hv; simp at hv; rcases hv with rfl | rfl | rfl <;> rfl) rfl ?_
  rcases hx with rfl | ⟨a, ha, rfl⟩
  · refine e_iload_1 dX3_isOrNeeds_0 rfl ?_
    refine e_iconst (v := -1) dX3_isOrNeeds_1 rfl ic_m1 ?_
    refine e_ic_eq_t (tgt := 27) dX3_isOrNeeds_2 (by decide) rfl ?_
    refine e_iconst (v := nI 0) dX3_isOrNeeds_27 rfl ic_0 ?_
    exact e_iret dX3_isOrNeeds_28 rfl rfl (Nat.le_of_ble_eq_true rfl) (Nat.le_of_ble_eq_true rfl) rfl rfl
  · by_cases h1 : a = k
    · refine e_iload_1 dX3_isOrNeeds_0 rfl ?_
      refine e_iconst (v := -1) dX3_isOrNeeds_1 rfl ic_m1 ?_
      refine e_ic_eq_f dX3_isOrNeeds_2 rfl ⟨27, by decide⟩ (nI_m1 ha) ?_
      refine e_iload_1 dX3_isOrNeeds_5 rfl ?_
      refine e_iload_2 dX3_isOrNeeds_6 rfl ?_
      refine e_nc_eq_t (tgt := 23) dX3_isOrNeeds_7 (by decide) (by omega) (by omega) h1 ?_
      refine e_iconst (v := nI 1) dX3_isOrNeeds_23 rfl ic_1 ?_
      refine e_goto (tgt := 28) dX3_isOrNeeds_24 (by decide) ?_
      exact e_iret dX3_isOrNeeds_28 rfl rfl (Nat.le_of_ble_eq_true rfl) (Nat.le_of_ble_eq_true rfl) (bI_t (by subst h1; simp [ionF, nI_m1 ha])).symm rfl
    · have e1 : ionF M (nI a) k = ndF M 8 a k := by
        have : ¬ nI a = nI k := fun q => h1 ((nI_eq (by omega) (by omega)).mp q)
        simp [ionF, nI_m1 ha, this, ixN_nI ha]
      by_cases h2 : ndF M 8 a k = true
      · refine e_iload_1 dX3_isOrNeeds_0 rfl ?_
        refine e_iconst (v := -1) dX3_isOrNeeds_1 rfl ic_m1 ?_
        refine e_ic_eq_f dX3_isOrNeeds_2 rfl ⟨27, by decide⟩ (nI_m1 ha) ?_
        refine e_iload_1 dX3_isOrNeeds_5 rfl ?_
        refine e_iload_2 dX3_isOrNeeds_6 rfl ?_
        refine e_nc_eq_f dX3_isOrNeeds_7 rfl ⟨23, by decide⟩ (by omega) (by omega) h1 ?_
        refine e_aload_0 dX3_isOrNeeds_10 rfl ?_
        refine e_getR dX3_isOrNeeds_11 rfl lkX3_11 rfl ps_0 (by decide) (by decide) (mr_of hmr rfl) ?_
        refine e_iload_1 dX3_isOrNeeds_14 rfl ?_
        refine e_iload_2 dX3_isOrNeeds_15 rfl ?_
        refine e_iconst (v := nI 0) dX3_isOrNeeds_16 rfl ic_0 ?_
        refine e_callS dX3_isOrNeeds_17 rfl csX3_87 (s_needs hf hmr 8 a k 0 ha hk rfl) rfl rfl ⟨Nat.le_of_ble_eq_true rfl, Nat.le_of_ble_eq_true rfl⟩ ⟨Nat.le_of_ble_eq_true rfl, Nat.le_of_ble_eq_true rfl⟩ rfl rfl (Nat.le_of_ble_eq_true rfl) ?_
        refine e_if_eq_f dX3_isOrNeeds_20 rfl ⟨27, by decide⟩ (bI1 h2) ?_
        refine e_iconst (v := nI 1) dX3_isOrNeeds_23 rfl ic_1 ?_
        refine e_goto (tgt := 28) dX3_isOrNeeds_24 (by decide) ?_
        exact e_iret dX3_isOrNeeds_28 rfl rfl (Nat.le_of_ble_eq_true rfl) (Nat.le_of_ble_eq_true rfl) (bI_t (by rw [e1, h2])).symm rfl
      · refine e_iload_1 dX3_isOrNeeds_0 rfl ?_
        refine e_iconst (v := -1) dX3_isOrNeeds_1 rfl ic_m1 ?_
        refine e_ic_eq_f dX3_isOrNeeds_2 rfl ⟨27, by decide⟩ (nI_m1 ha) ?_
        refine e_iload_1 dX3_isOrNeeds_5 rfl ?_
        refine e_iload_2 dX3_isOrNeeds_6 rfl ?_
        refine e_nc_eq_f dX3_isOrNeeds_7 rfl ⟨23, by decide⟩ (by omega) (by omega) h1 ?_
        refine e_aload_0 dX3_isOrNeeds_10 rfl ?_
        refine e_getR dX3_isOrNeeds_11 rfl lkX3_11 rfl ps_0 (by decide) (by decide) (mr_of hmr rfl) ?_
        refine e_iload_1 dX3_isOrNeeds_14 rfl ?_
        refine e_iload_2 dX3_isOrNeeds_15 rfl ?_
        refine e_iconst (v := nI 0) dX3_isOrNeeds_16 rfl ic_0 ?_
        refine e_callS dX3_isOrNeeds_17 rfl csX3_87 (s_needs hf hmr 8 a k 0 ha hk rfl) rfl rfl ⟨Nat.le_of_ble_eq_true rfl, Nat.le_of_ble_eq_true rfl⟩ ⟨Nat.le_of_ble_eq_true rfl, Nat.le_of_ble_eq_true rfl⟩ rfl rfl (Nat.le_of_ble_eq_true rfl) ?_
        refine e_if_eq_t (tgt := 27) dX3_isOrNeeds_20 (by decide) (bI0 (Bool.not_eq_true _ |>.mp h2)) ?_
        refine e_iconst (v := nI 0) dX3_isOrNeeds_27 rfl ic_0 ?_
        exact e_iret dX3_isOrNeeds_28 rfl rfl (Nat.le_of_ble_eq_true rfl) (Nat.le_of_ble_eq_true rfl) (bI_f (by rw [e1]; exact Bool.not_eq_true _ |>.mp h2)).symm rfl
theorem s_requireRule_ok {l : Launch} (hf : l.stackTraces = false) {M : pmM} {od : Nat → Nat} (hmr : M.2.1 = mrC od) (hod : ∀ p, p < 8 → od p < 8) {rc : Nat} (hrc : M.1 0 3 = nI rc) (h8 : rc ≤ 8) {x : Int32} {p : Nat} (hp : p < rc) (hx : M.1 (31 + 3 * od p) 0 = x) (hn : ∀ q, q < p → M.1 (31 + 3 * od q) 0 ≠ x) : Sp l kX3_requireRule 64 1 1 6 [.ref 0, .int x] M (.inl (some (.int (nI p)))) M := by
  refine sp_of hf (by decide +kernel) (Nat.le_of_ble_eq_true rfl) (by intro v hv; simp at hv; rcases hv with rfl | rfl <;> rfl) rfl ?_
  refine e_iconst (v := nI 0) dX3_requireRule_0 rfl ic_0 ?_
  refine e_istore_2 dX3_requireRule_1 rfl (Nat.le_of_ble_eq_true rfl) rfl ?_
  refine loop_up (P := fun i => Ev l kX3_requireRule (gM 64 1 6 (.inl (some (.int (nI p)))) M) (rmd 1 1 6) 64 0 0 2 [some (.ref 0), some (.int x), some (.int (nI i))] [] M) ?_ (fun i hi ih => ?_) 0 (Nat.zero_le p)
  · refine e_iload_2 dX3_requireRule_2 rfl ?_
    refine e_aload_0 dX3_requireRule_3 rfl ?_
    refine e_getI dX3_requireRule_4 rfl lkX3_116 rfl ps_0 (by decide) (by decide) ?_
    refine e_topi (nI rc) hrc ?_
    refine e_nc_ge_f dX3_requireRule_7 rfl ⟨31, by decide⟩ (by omega) (by omega) hp ?_
    refine e_aload_0 dX3_requireRule_10 rfl ?_
    refine e_getR dX3_requireRule_11 rfl lkX3_17 rfl ps_0 (by decide) (by decide) (mr_of hmr rfl) ?_
    refine e_iload_2 dX3_requireRule_14 rfl ?_
    refine e_aald dX3_requireRule_15 rfl ps_2 (by decide) (by decide) (by decide) rfl (by omega) (mr_of hmr (mr_order _ _)) ?_
    refine e_getI dX3_requireRule_16 rfl lkX3_153 rfl (ps_R (hod _ (by omega))) (by decide) (lt_RU (hod _ (by omega))) ?_
    refine e_iload_1 dX3_requireRule_19 rfl ?_
    refine e_ic_ne_f dX3_requireRule_20 rfl ⟨25, by decide⟩ hx ?_
    refine e_iload_2 dX3_requireRule_23 rfl ?_
    exact e_iret dX3_requireRule_24 rfl rfl (Nat.le_of_ble_eq_true rfl) (Nat.le_of_ble_eq_true rfl) rfl rfl
  · refine e_iload_2 dX3_requireRule_2 rfl ?_
    refine e_aload_0 dX3_requireRule_3 rfl ?_
    refine e_getI dX3_requireRule_4 rfl lkX3_116 rfl ps_0 (by decide) (by decide) ?_
    refine e_topi (nI rc) hrc ?_
    refine e_nc_ge_f dX3_requireRule_7 rfl ⟨31, by decide⟩ (by omega) (by omega) (by omega) ?_
    refine e_aload_0 dX3_requireRule_10 rfl ?_
    refine e_getR dX3_requireRule_11 rfl lkX3_17 rfl ps_0 (by decide) (by decide) (mr_of hmr rfl) ?_
    refine e_iload_2 dX3_requireRule_14 rfl ?_
    refine e_aald dX3_requireRule_15 rfl ps_2 (by decide) (by decide) (by decide) rfl (by omega) (mr_of hmr (mr_order _ _)) ?_
    refine e_getI dX3_requireRule_16 rfl lkX3_153 rfl (ps_R (hod _ (by omega))) (by decide) (lt_RU (hod _ (by omega))) ?_
    refine e_iload_1 dX3_requireRule_19 rfl ?_
    refine e_ic_ne_t (tgt := 25) dX3_requireRule_20 (by decide) (hn i hi) ?_
    refine e_iinc_2 (v := nI (i + 1)) dX3_requireRule_25 rfl (Nat.le_of_ble_eq_true rfl) rfl (nI_1 i) ?_
    refine e_goto (tgt := 2) dX3_requireRule_28 (by decide) ?_
    exact ih
theorem s_requireRule_no {l : Launch} (hf : l.stackTraces = false) {M : pmM} {od : Nat → Nat} (hmr : M.2.1 = mrC od) (hod : ∀ p, p < 8 → od p < 8) {rc : Nat} (hrc : M.1 0 3 = nI rc) (h8 : rc ≤ 8) {x : Int32} (hn : ∀ q, q < rc → M.1 (31 + 3 * od q) 0 ≠ x) : Sp l kX3_requireRule 64 1 1 6 [.ref 0, .int x] M (.inr "java/util/NoSuchElementException") M := by
  refine sp_of hf (by decide +kernel) (Nat.le_of_ble_eq_true rfl) (by intro v hv; simp at hv; rcases hv with rfl | rfl <;> rfl) rfl ?_
  refine e_iconst (v := nI 0) dX3_requireRule_0 rfl ic_0 ?_
  refine e_istore_2 dX3_requireRule_1 rfl (Nat.le_of_ble_eq_true rfl) rfl ?_
  refine loop_up (P := fun i => Ev l kX3_requireRule (gM 64 1 6 (.inr "java/util/NoSuchElementException") M) (rmd 1 1 6) 64 0 0 2 [some (.ref 0), some (.int x), some (.int (nI i))] [] M) ?_ (fun i hi ih => ?_) 0 (Nat.zero_le rc)
  · refine e_iload_2 dX3_requireRule_2 rfl ?_
    refine e_aload_0 dX3_requireRule_3 rfl ?_
    refine e_getI dX3_requireRule_4 rfl lkX3_116 rfl ps_0 (by decide) (by decide) ?_
    refine e_topi (nI rc) hrc ?_
    refine e_nc_ge_t (tgt := 31) dX3_requireRule_7 (by decide) (by omega) (by omega) (Nat.le_refl _) ?_
    exact e_throwN dX3_requireRule_31 dX3_requireRule_34 dX3_requireRule_35 dX3_requireRule_37 dX3_requireRule_40 th_104_249_108 rfl ⟨Nat.le_of_ble_eq_true rfl, Nat.le_of_ble_eq_true rfl⟩ (Nat.le_of_ble_eq_true rfl) ⟨Nat.le_of_ble_eq_true rfl, Nat.le_of_ble_eq_true rfl⟩ ⟨Nat.le_of_ble_eq_true rfl, Nat.le_of_ble_eq_true rfl⟩ rfl
  · refine e_iload_2 dX3_requireRule_2 rfl ?_
    refine e_aload_0 dX3_requireRule_3 rfl ?_
    refine e_getI dX3_requireRule_4 rfl lkX3_116 rfl ps_0 (by decide) (by decide) ?_
    refine e_topi (nI rc) hrc ?_
    refine e_nc_ge_f dX3_requireRule_7 rfl ⟨31, by decide⟩ (by omega) (by omega) hi ?_
    refine e_aload_0 dX3_requireRule_10 rfl ?_
    refine e_getR dX3_requireRule_11 rfl lkX3_17 rfl ps_0 (by decide) (by decide) (mr_of hmr rfl) ?_
    refine e_iload_2 dX3_requireRule_14 rfl ?_
    refine e_aald dX3_requireRule_15 rfl ps_2 (by decide) (by decide) (by decide) rfl (by omega) (mr_of hmr (mr_order _ _)) ?_
    refine e_getI dX3_requireRule_16 rfl lkX3_153 rfl (ps_R (hod _ (by omega))) (by decide) (lt_RU (hod _ (by omega))) ?_
    refine e_iload_1 dX3_requireRule_19 rfl ?_
    refine e_ic_ne_t (tgt := 25) dX3_requireRule_20 (by decide) (hn i hi) ?_
    refine e_iinc_2 (v := nI (i + 1)) dX3_requireRule_25 rfl (Nat.le_of_ble_eq_true rfl) rfl (nI_1 i) ?_
    refine e_goto (tgt := 2) dX3_requireRule_28 (by decide) ?_
    exact ih
theorem s_matches {l : Launch} (hf : l.stackTraces = false) {M : pmM} {od : Nat → Nat} (hmr : M.2.1 = mrC od) {j a b c : Nat} (hj : j < 8) (ha : a < 32) (hb : b < 32) (hc : c < 32) : Sp l kX1_matches 64 1 0 0 [.ref (31 + 3 * j), .int (nI a), .int (nI b), .int (nI c)] M (.inl (some (.int (bI (maF M j a b c))))) M := by
  refine sp_of hf (by decide +kernel) (Nat.le_of_ble_eq_true rfl) (by intro v hv; simp at hv; rcases hv with rfl | rfl | rfl | rfl <;> rfl) rfl ?_
  by_cases h0 : hasb (M.1 (33 + 3 * j) 0) a = true
  · by_cases h1 : hasb (M.1 (33 + 3 * j) 1) b = true
    · by_cases h2 : hasb (M.1 (33 + 3 * j) 2) c = true
      · refine e_aload_0 dX1_matches_0 rfl ?_
        refine e_getR dX1_matches_1 rfl lkX1_15 rfl (ps_R hj) (by decide) (lt_RU hj) (mr_of hmr (mr_R9 _ hj)) ?_
        refine e_iconst (v := nI 0) dX1_matches_4 rfl ic_0 ?_
        refine e_iald dX1_matches_5 rfl (ps_M hj) (lt_RM hj) rfl (by omega) ?_
        refine e_iload_1 dX1_matches_6 rfl ?_
        refine e_callSN dX1_matches_7 rfl csX1_44 (s_contains hf ha) rfl rfl ⟨Nat.le_of_ble_eq_true rfl, Nat.le_of_ble_eq_true rfl⟩ ⟨Nat.le_of_ble_eq_true rfl, Nat.le_of_ble_eq_true rfl⟩ rfl rfl (Nat.le_of_ble_eq_true rfl) ?_
        refine e_if_eq_f dX1_matches_10 rfl ⟨43, by decide⟩ (bI1 h0) ?_
        refine e_aload_0 dX1_matches_13 rfl ?_
        refine e_getR dX1_matches_14 rfl lkX1_15 rfl (ps_R hj) (by decide) (lt_RU hj) (mr_of hmr (mr_R9 _ hj)) ?_
        refine e_iconst (v := nI 1) dX1_matches_17 rfl ic_1 ?_
        refine e_iald dX1_matches_18 rfl (ps_M hj) (lt_RM hj) rfl (by omega) ?_
        refine e_iload_2 dX1_matches_19 rfl ?_
        refine e_callSN dX1_matches_20 rfl csX1_44 (s_contains hf hb) rfl rfl ⟨Nat.le_of_ble_eq_true rfl, Nat.le_of_ble_eq_true rfl⟩ ⟨Nat.le_of_ble_eq_true rfl, Nat.le_of_ble_eq_true rfl⟩ rfl rfl (Nat.le_of_ble_eq_true rfl) ?_
        refine e_if_eq_f dX1_matches_23 rfl ⟨43, by decide⟩ (bI1 h1) ?_
        refine e_aload_0 dX1_matches_26 rfl ?_
        refine e_getR dX1_matches_27 rfl lkX1_15 rfl (ps_R hj) (by decide) (lt_RU hj) (mr_of hmr (mr_R9 _ hj)) ?_
        refine e_iconst (v := nI 2) dX1_matches_30 rfl ic_2 ?_
        refine e_iald dX1_matches_31 rfl (ps_M hj) (lt_RM hj) rfl (by omega) ?_
        refine e_iload_3 dX1_matches_32 rfl ?_
        refine e_callSN dX1_matches_33 rfl csX1_44 (s_contains hf hc) rfl rfl ⟨Nat.le_of_ble_eq_true rfl, Nat.le_of_ble_eq_true rfl⟩ ⟨Nat.le_of_ble_eq_true rfl, Nat.le_of_ble_eq_true rfl⟩ rfl rfl (Nat.le_of_ble_eq_true rfl) ?_
        refine e_if_eq_f dX1_matches_36 rfl ⟨43, by decide⟩ (bI1 h2) ?_
        refine e_iconst (v := nI 1) dX1_matches_39 rfl ic_1 ?_
        refine e_goto (tgt := 44) dX1_matches_40 (by decide) ?_
        exact e_iret dX1_matches_44 rfl rfl (Nat.le_of_ble_eq_true rfl) (Nat.le_of_ble_eq_true rfl) (bI_t (by rw [maF, h0, h1, h2]; rfl)).symm rfl
      · refine e_aload_0 dX1_matches_0 rfl ?_
        refine e_getR dX1_matches_1 rfl lkX1_15 rfl (ps_R hj) (by decide) (lt_RU hj) (mr_of hmr (mr_R9 _ hj)) ?_
        refine e_iconst (v := nI 0) dX1_matches_4 rfl ic_0 ?_
        refine e_iald dX1_matches_5 rfl (ps_M hj) (lt_RM hj) rfl (by omega) ?_
        refine e_iload_1 dX1_matches_6 rfl ?_
        refine e_callSN dX1_matches_7 rfl csX1_44 (s_contains hf ha) rfl rfl ⟨Nat.le_of_ble_eq_true rfl, Nat.le_of_ble_eq_true rfl⟩ ⟨Nat.le_of_ble_eq_true rfl, Nat.le_of_ble_eq_true rfl⟩ rfl rfl (Nat.le_of_ble_eq_true rfl) ?_
        refine e_if_eq_f dX1_matches_10 rfl ⟨43, by decide⟩ (bI1 h0) ?_
        refine e_aload_0 dX1_matches_13 rfl ?_
        refine e_getR dX1_matches_14 rfl lkX1_15 rfl (ps_R hj) (by decide) (lt_RU hj) (mr_of hmr (mr_R9 _ hj)) ?_
        refine e_iconst (v := nI 1) dX1_matches_17 rfl ic_1 ?_
        refine e_iald dX1_matches_18 rfl (ps_M hj) (lt_RM hj) rfl (by omega) ?_
        refine e_iload_2 dX1_matches_19 rfl ?_
        refine e_callSN dX1_matches_20 rfl csX1_44 (s_contains hf hb) rfl rfl ⟨Nat.le_of_ble_eq_true rfl, Nat.le_of_ble_eq_true rfl⟩ ⟨Nat.le_of_ble_eq_true rfl, Nat.le_of_ble_eq_true rfl⟩ rfl rfl (Nat.le_of_ble_eq_true rfl) ?_
        refine e_if_eq_f dX1_matches_23 rfl ⟨43, by decide⟩ (bI1 h1) ?_
        refine e_aload_0 dX1_matches_26 rfl ?_
        refine e_getR dX1_matches_27 rfl lkX1_15 rfl (ps_R hj) (by decide) (lt_RU hj) (mr_of hmr (mr_R9 _ hj)) ?_
        refine e_iconst (v := nI 2) dX1_matches_30 rfl ic_2 ?_
        refine e_iald dX1_matches_31 rfl (ps_M hj) (lt_RM hj) rfl (by omega) ?_
        refine e_iload_3 dX1_matches_32 rfl ?_
        refine e_callSN dX1_matches_33 rfl csX1_44 (s_contains hf hc) rfl rfl ⟨Nat.le_of_ble_eq_true rfl, Nat.le_of_ble_eq_true rfl⟩ ⟨Nat.le_of_ble_eq_true rfl, Nat.le_of_ble_eq_true rfl⟩ rfl rfl (Nat.le_of_ble_eq_true rfl) ?_
        refine e_if_eq_t (tgt := 43) dX1_matches_36 (by decide) (bI0 (Bool.not_eq_true _ |>.mp h2)) ?_
        refine e_iconst (v := nI 0) dX1_matches_43 rfl ic_0 ?_
        exact e_iret dX1_matches_44 rfl rfl (Nat.le_of_ble_eq_true rfl) (Nat.le_of_ble_eq_true rfl) (bI_f (by rw [maF, Bool.not_eq_true _ |>.mp h2]; simp)).symm rfl
    · refine e_aload_0 dX1_matches_0 rfl ?_
      refine e_getR dX1_matches_1 rfl lkX1_15 rfl (ps_R hj) (by decide) (lt_RU hj) (mr_of hmr (mr_R9 _ hj)) ?_
      refine e_iconst (v := nI 0) dX1_matches_4 rfl ic_0 ?_
      refine e_iald dX1_matches_5 rfl (ps_M hj) (lt_RM hj) rfl (by omega) ?_
      refine e_iload_1 dX1_matches_6 rfl ?_
      refine e_callSN dX1_matches_7 rfl csX1_44 (s_contains hf ha) rfl rfl ⟨Nat.le_of_ble_eq_true rfl, Nat.le_of_ble_eq_true rfl⟩ ⟨Nat.le_of_ble_eq_true rfl, Nat.le_of_ble_eq_true rfl⟩ rfl rfl (Nat.le_of_ble_eq_true rfl) ?_
      refine e_if_eq_f dX1_matches_10 rfl ⟨43, by decide⟩ (bI1 h0) ?_
      refine e_aload_0 dX1_matches_13 rfl ?_
      refine e_getR dX1_matches_14 rfl lkX1_15 rfl (ps_R hj) (by decide) (lt_RU hj) (mr_of hmr (mr_R9 _ hj)) ?_
      refine e_iconst (v := nI 1) dX1_matches_17 rfl ic_1 ?_
      refine e_iald dX1_matches_18 rfl (ps_M hj) (lt_RM hj) rfl (by omega) ?_
      refine e_iload_2 dX1_matches_19 rfl ?_
      refine e_callSN dX1_matches_20 rfl csX1_44 (s_contains hf hb) rfl rfl ⟨Nat.le_of_ble_eq_true rfl, Nat.le_of_ble_eq_true rfl⟩ ⟨Nat.le_of_ble_eq_true rfl, Nat.le_of_ble_eq_true rfl⟩ rfl rfl (Nat.le_of_ble_eq_true rfl) ?_
      refine e_if_eq_t (tgt := 43) dX1_matches_23 (by decide) (bI0 (Bool.not_eq_true _ |>.mp h1)) ?_
      refine e_iconst (v := nI 0) dX1_matches_43 rfl ic_0 ?_
      exact e_iret dX1_matches_44 rfl rfl (Nat.le_of_ble_eq_true rfl) (Nat.le_of_ble_eq_true rfl) (bI_f (by rw [maF, Bool.not_eq_true _ |>.mp h1]; simp)).symm rfl
  · refine e_aload_0 dX1_matches_0 rfl ?_
    refine e_getR dX1_matches_1 rfl lkX1_15 rfl (ps_R hj) (by decide) (lt_RU hj) (mr_of hmr (mr_R9 _ hj)) ?_
    refine e_iconst (v := nI 0) dX1_matches_4 rfl ic_0 ?_
    refine e_iald dX1_matches_5 rfl (ps_M hj) (lt_RM hj) rfl (by omega) ?_
    refine e_iload_1 dX1_matches_6 rfl ?_
    refine e_callSN dX1_matches_7 rfl csX1_44 (s_contains hf ha) rfl rfl ⟨Nat.le_of_ble_eq_true rfl, Nat.le_of_ble_eq_true rfl⟩ ⟨Nat.le_of_ble_eq_true rfl, Nat.le_of_ble_eq_true rfl⟩ rfl rfl (Nat.le_of_ble_eq_true rfl) ?_
    refine e_if_eq_t (tgt := 43) dX1_matches_10 (by decide) (bI0 (Bool.not_eq_true _ |>.mp h0)) ?_
    refine e_iconst (v := nI 0) dX1_matches_43 rfl ic_0 ?_
    exact e_iret dX1_matches_44 rfl rfl (Nat.le_of_ble_eq_true rfl) (Nat.le_of_ble_eq_true rfl) (bI_f (by rw [maF, Bool.not_eq_true _ |>.mp h0]; simp)).symm rfl
theorem s_deciding_ok {l : Launch} (hf : l.stackTraces = false) {M : pmM} {od : Nat → Nat} (hmr : M.2.1 = mrC od) (hod : ∀ p, p < 8 → od p < 8) {rc : Nat} (hrc : M.1 0 3 = nI rc) (h8 : rc ≤ 8) {a b c : Nat} (ha : a < 32) (hb : b < 32) (hc : c < 32) {p : Nat} (hp : p < rc) (hx : inF M od p = true ∧ maF M (od p) a b c = true) (hn : ∀ q, q < p → ¬ (inF M od q = true ∧ maF M (od q) a b c = true)) : Sp l kX3_deciding 64 2 0 0 [.ref 0, .int (nI a), .int (nI b), .int (nI c)] M (.inl (some (.int (nI p)))) M := by
  refine sp_of hf (by decide +kernel) (Nat.le_of_ble_eq_true rfl) (by intro v hv; simp at hv; rcases hv with rfl | rfl | rfl | rfl <;> rfl) rfl ?_
  refine e_iconst (v := nI 0) dX3_deciding_0 rfl ic_0 ?_
  refine e_istore_4 dX3_deciding_1 rfl (Nat.le_of_ble_eq_true rfl) rfl ?_
  refine loop_up (P := fun i => Ev l kX3_deciding (gM 64 0 0 (.inl (some (.int (nI p)))) M) (rmd 2 0 0) 64 0 0 3 [some (.ref 0), some (.int (nI a)), some (.int (nI b)), some (.int (nI c)), some (.int (nI i))] [] M) ?_ (fun i hi ih => ?_) 0 (Nat.zero_le p)
  · refine e_iload_4 dX3_deciding_3 rfl ?_
    refine e_aload_0 dX3_deciding_5 rfl ?_
    refine e_getI dX3_deciding_6 rfl lkX3_116 rfl ps_0 (by decide) (by decide) ?_
    refine e_topi (nI rc) hrc ?_
    refine e_nc_ge_f dX3_deciding_9 rfl ⟨54, by decide⟩ (by omega) (by omega) hp ?_
    refine e_aload_0 dX3_deciding_12 rfl ?_
    refine e_getR dX3_deciding_13 rfl lkX3_17 rfl ps_0 (by decide) (by decide) (mr_of hmr rfl) ?_
    refine e_iload_4 dX3_deciding_16 rfl ?_
    refine e_aald dX3_deciding_18 rfl ps_2 (by decide) (by decide) (by decide) rfl (by omega) (mr_of hmr (mr_order _ _)) ?_
    refine e_aload_0 dX3_deciding_19 rfl ?_
    refine e_getI dX3_deciding_20 rfl lkX3_143 rfl ps_0 (by decide) (by decide) ?_
    refine e_callN dX3_deciding_23 rfl csX3_170 (s_lastsOn hf (hod _ (by omega))) rfl rfl (ps_R (hod _ (by omega))) (by decide) (lt_RU (hod _ (by omega))) ⟨Nat.le_of_ble_eq_true rfl, Nat.le_of_ble_eq_true rfl⟩ ⟨Nat.le_of_ble_eq_true rfl, Nat.le_of_ble_eq_true rfl⟩ rfl rfl (Nat.le_of_ble_eq_true rfl) ?_
    refine e_if_eq_f dX3_deciding_26 rfl ⟨48, by decide⟩ (bI1 hx.1) ?_
    refine e_aload_0 dX3_deciding_29 rfl ?_
    refine e_getR dX3_deciding_30 rfl lkX3_17 rfl ps_0 (by decide) (by decide) (mr_of hmr rfl) ?_
    refine e_iload_4 dX3_deciding_33 rfl ?_
    refine e_aald dX3_deciding_35 rfl ps_2 (by decide) (by decide) (by decide) rfl (by omega) (mr_of hmr (mr_order _ _)) ?_
    refine e_iload_1 dX3_deciding_36 rfl ?_
    refine e_iload_2 dX3_deciding_37 rfl ?_
    refine e_iload_3 dX3_deciding_38 rfl ?_
    refine e_callN dX3_deciding_39 rfl csX3_265 (s_matches hf hmr (hod _ (by omega)) ha hb hc) rfl rfl (ps_R (hod _ (by omega))) (by decide) (lt_RU (hod _ (by omega))) ⟨Nat.le_of_ble_eq_true rfl, Nat.le_of_ble_eq_true rfl⟩ ⟨Nat.le_of_ble_eq_true rfl, Nat.le_of_ble_eq_true rfl⟩ rfl rfl (Nat.le_of_ble_eq_true rfl) ?_
    refine e_if_eq_f dX3_deciding_42 rfl ⟨48, by decide⟩ (bI1 hx.2) ?_
    refine e_iload_4 dX3_deciding_45 rfl ?_
    exact e_iret dX3_deciding_47 rfl rfl (Nat.le_of_ble_eq_true rfl) (Nat.le_of_ble_eq_true rfl) rfl rfl
  · by_cases h1 : inF M od i = true
    · refine e_iload_4 dX3_deciding_3 rfl ?_
      refine e_aload_0 dX3_deciding_5 rfl ?_
      refine e_getI dX3_deciding_6 rfl lkX3_116 rfl ps_0 (by decide) (by decide) ?_
      refine e_topi (nI rc) hrc ?_
      refine e_nc_ge_f dX3_deciding_9 rfl ⟨54, by decide⟩ (by omega) (by omega) (by omega) ?_
      refine e_aload_0 dX3_deciding_12 rfl ?_
      refine e_getR dX3_deciding_13 rfl lkX3_17 rfl ps_0 (by decide) (by decide) (mr_of hmr rfl) ?_
      refine e_iload_4 dX3_deciding_16 rfl ?_
      refine e_aald dX3_deciding_18 rfl ps_2 (by decide) (by decide) (by decide) rfl (by omega) (mr_of hmr (mr_order _ _)) ?_
      refine e_aload_0 dX3_deciding_19 rfl ?_
      refine e_getI dX3_deciding_20 rfl lkX3_143 rfl ps_0 (by decide) (by decide) ?_
      refine e_callN dX3_deciding_23 rfl csX3_170 (s_lastsOn hf (hod _ (by omega))) rfl rfl (ps_R (hod _ (by omega))) (by decide) (lt_RU (hod _ (by omega))) ⟨Nat.le_of_ble_eq_true rfl, Nat.le_of_ble_eq_true rfl⟩ ⟨Nat.le_of_ble_eq_true rfl, Nat.le_of_ble_eq_true rfl⟩ rfl rfl (Nat.le_of_ble_eq_true rfl) ?_
      refine e_if_eq_f dX3_deciding_26 rfl ⟨48, by decide⟩ (bI1 h1) ?_
      refine e_aload_0 dX3_deciding_29 rfl ?_
      refine e_getR dX3_deciding_30 rfl lkX3_17 rfl ps_0 (by decide) (by decide) (mr_of hmr rfl) ?_
      refine e_iload_4 dX3_deciding_33 rfl ?_
      refine e_aald dX3_deciding_35 rfl ps_2 (by decide) (by decide) (by decide) rfl (by omega) (mr_of hmr (mr_order _ _)) ?_
      refine e_iload_1 dX3_deciding_36 rfl ?_
      refine e_iload_2 dX3_deciding_37 rfl ?_
      refine e_iload_3 dX3_deciding_38 rfl ?_
      refine e_callN dX3_deciding_39 rfl csX3_265 (s_matches hf hmr (hod _ (by omega)) ha hb hc) rfl rfl (ps_R (hod _ (by omega))) (by decide) (lt_RU (hod _ (by omega))) ⟨Nat.le_of_ble_eq_true rfl, Nat.le_of_ble_eq_true rfl⟩ ⟨Nat.le_of_ble_eq_true rfl, Nat.le_of_ble_eq_true rfl⟩ rfl rfl (Nat.le_of_ble_eq_true rfl) ?_
      refine e_if_eq_t (tgt := 48) dX3_deciding_42 (by decide) (bI0 (Bool.not_eq_true _ |>.mp (fun q => hn i hi ⟨h1, q⟩))) ?_
      refine e_iinc_4 (v := nI (i + 1)) dX3_deciding_48 rfl (Nat.le_of_ble_eq_true rfl) rfl (nI_1 i) ?_
      refine e_goto (tgt := 3) dX3_deciding_51 (by decide) ?_
      exact ih
    · refine e_iload_4 dX3_deciding_3 rfl ?_
      refine e_aload_0 dX3_deciding_5 rfl ?_
      refine e_getI dX3_deciding_6 rfl lkX3_116 rfl ps_0 (by decide) (by decide) ?_
      refine e_topi (nI rc) hrc ?_
      refine e_nc_ge_f dX3_deciding_9 rfl ⟨54, by decide⟩ (by omega) (by omega) (by omega) ?_
      refine e_aload_0 dX3_deciding_12 rfl ?_
      refine e_getR dX3_deciding_13 rfl lkX3_17 rfl ps_0 (by decide) (by decide) (mr_of hmr rfl) ?_
      refine e_iload_4 dX3_deciding_16 rfl ?_
      refine e_aald dX3_deciding_18 rfl ps_2 (by decide) (by decide) (by decide) rfl (by omega) (mr_of hmr (mr_order _ _)) ?_
      refine e_aload_0 dX3_deciding_19 rfl ?_
      refine e_getI dX3_deciding_20 rfl lkX3_143 rfl ps_0 (by decide) (by decide) ?_
      refine e_callN dX3_deciding_23 rfl csX3_170 (s_lastsOn hf (hod _ (by omega))) rfl rfl (ps_R (hod _ (by omega))) (by decide) (lt_RU (hod _ (by omega))) ⟨Nat.le_of_ble_eq_true rfl, Nat.le_of_ble_eq_true rfl⟩ ⟨Nat.le_of_ble_eq_true rfl, Nat.le_of_ble_eq_true rfl⟩ rfl rfl (Nat.le_of_ble_eq_true rfl) ?_
      refine e_if_eq_t (tgt := 48) dX3_deciding_26 (by decide) (bI0 (Bool.not_eq_true _ |>.mp h1)) ?_
      refine e_iinc_4 (v := nI (i + 1)) dX3_deciding_48 rfl (Nat.le_of_ble_eq_true rfl) rfl (nI_1 i) ?_
      refine e_goto (tgt := 3) dX3_deciding_51 (by decide) ?_
      exact ih
theorem s_deciding_no {l : Launch} (hf : l.stackTraces = false) {M : pmM} {od : Nat → Nat} (hmr : M.2.1 = mrC od) (hod : ∀ p, p < 8 → od p < 8) {rc : Nat} (hrc : M.1 0 3 = nI rc) (h8 : rc ≤ 8) {a b c : Nat} (ha : a < 32) (hb : b < 32) (hc : c < 32) (hn : ∀ q, q < rc → ¬ (inF M od q = true ∧ maF M (od q) a b c = true)) : Sp l kX3_deciding 64 2 0 0 [.ref 0, .int (nI a), .int (nI b), .int (nI c)] M (.inl (some (.int (-1)))) M := by
  refine sp_of hf (by decide +kernel) (Nat.le_of_ble_eq_true rfl) (by intro v hv; simp at hv; rcases hv with rfl | rfl | rfl | rfl <;> rfl) rfl ?_
  refine e_iconst (v := nI 0) dX3_deciding_0 rfl ic_0 ?_
  refine e_istore_4 dX3_deciding_1 rfl (Nat.le_of_ble_eq_true rfl) rfl ?_
  refine loop_up (P := fun i => Ev l kX3_deciding (gM 64 0 0 (.inl (some (.int (-1)))) M) (rmd 2 0 0) 64 0 0 3 [some (.ref 0), some (.int (nI a)), some (.int (nI b)), some (.int (nI c)), some (.int (nI i))] [] M) ?_ (fun i hi ih => ?_) 0 (Nat.zero_le rc)
  · refine e_iload_4 dX3_deciding_3 rfl ?_
    refine e_aload_0 dX3_deciding_5 rfl ?_
    refine e_getI dX3_deciding_6 rfl lkX3_116 rfl ps_0 (by decide) (by decide) ?_
    refine e_topi (nI rc) hrc ?_
    refine e_nc_ge_t (tgt := 54) dX3_deciding_9 (by decide) (by omega) (by omega) (Nat.le_refl _) ?_
    refine e_iconst (v := -1) dX3_deciding_54 rfl ic_m1 ?_
    exact e_iret dX3_deciding_55 rfl rfl (Nat.le_of_ble_eq_true rfl) (Nat.le_of_ble_eq_true rfl) rfl rfl
  · by_cases h1 : inF M od i = true
    · refine e_iload_4 dX3_deciding_3 rfl ?_
      refine e_aload_0 dX3_deciding_5 rfl ?_
      refine e_getI dX3_deciding_6 rfl lkX3_116 rfl ps_0 (by decide) (by decide) ?_
      refine e_topi (nI rc) hrc ?_
      refine e_nc_ge_f dX3_deciding_9 rfl ⟨54, by decide⟩ (by omega) (by omega) (by omega) ?_
      refine e_aload_0 dX3_deciding_12 rfl ?_
      refine e_getR dX3_deciding_13 rfl lkX3_17 rfl ps_0 (by decide) (by decide) (mr_of hmr rfl) ?_
      refine e_iload_4 dX3_deciding_16 rfl ?_
      refine e_aald dX3_deciding_18 rfl ps_2 (by decide) (by decide) (by decide) rfl (by omega) (mr_of hmr (mr_order _ _)) ?_
      refine e_aload_0 dX3_deciding_19 rfl ?_
      refine e_getI dX3_deciding_20 rfl lkX3_143 rfl ps_0 (by decide) (by decide) ?_
      refine e_callN dX3_deciding_23 rfl csX3_170 (s_lastsOn hf (hod _ (by omega))) rfl rfl (ps_R (hod _ (by omega))) (by decide) (lt_RU (hod _ (by omega))) ⟨Nat.le_of_ble_eq_true rfl, Nat.le_of_ble_eq_true rfl⟩ ⟨Nat.le_of_ble_eq_true rfl, Nat.le_of_ble_eq_true rfl⟩ rfl rfl (Nat.le_of_ble_eq_true rfl) ?_
      refine e_if_eq_f dX3_deciding_26 rfl ⟨48, by decide⟩ (bI1 h1) ?_
      refine e_aload_0 dX3_deciding_29 rfl ?_
      refine e_getR dX3_deciding_30 rfl lkX3_17 rfl ps_0 (by decide) (by decide) (mr_of hmr rfl) ?_
      refine e_iload_4 dX3_deciding_33 rfl ?_
      refine e_aald dX3_deciding_35 rfl ps_2 (by decide) (by decide) (by decide) rfl (by omega) (mr_of hmr (mr_order _ _)) ?_
      refine e_iload_1 dX3_deciding_36 rfl ?_
      refine e_iload_2 dX3_deciding_37 rfl ?_
      refine e_iload_3 dX3_deciding_38 rfl ?_
      refine e_callN dX3_deciding_39 rfl csX3_265 (s_matches hf hmr (hod _ (by omega)) ha hb hc) rfl rfl (ps_R (hod _ (by omega))) (by decide) (lt_RU (hod _ (by omega))) ⟨Nat.le_of_ble_eq_true rfl, Nat.le_of_ble_eq_true rfl⟩ ⟨Nat.le_of_ble_eq_true rfl, Nat.le_of_ble_eq_true rfl⟩ rfl rfl (Nat.le_of_ble_eq_true rfl) ?_
      refine e_if_eq_t (tgt := 48) dX3_deciding_42 (by decide) (bI0 (Bool.not_eq_true _ |>.mp (fun q => hn i hi ⟨h1, q⟩))) ?_
      refine e_iinc_4 (v := nI (i + 1)) dX3_deciding_48 rfl (Nat.le_of_ble_eq_true rfl) rfl (nI_1 i) ?_
      refine e_goto (tgt := 3) dX3_deciding_51 (by decide) ?_
      exact ih
    · refine e_iload_4 dX3_deciding_3 rfl ?_
      refine e_aload_0 dX3_deciding_5 rfl ?_
      refine e_getI dX3_deciding_6 rfl lkX3_116 rfl ps_0 (by decide) (by decide) ?_
      refine e_topi (nI rc) hrc ?_
      refine e_nc_ge_f dX3_deciding_9 rfl ⟨54, by decide⟩ (by omega) (by omega) (by omega) ?_
      refine e_aload_0 dX3_deciding_12 rfl ?_
      refine e_getR dX3_deciding_13 rfl lkX3_17 rfl ps_0 (by decide) (by decide) (mr_of hmr rfl) ?_
      refine e_iload_4 dX3_deciding_16 rfl ?_
      refine e_aald dX3_deciding_18 rfl ps_2 (by decide) (by decide) (by decide) rfl (by omega) (mr_of hmr (mr_order _ _)) ?_
      refine e_aload_0 dX3_deciding_19 rfl ?_
      refine e_getI dX3_deciding_20 rfl lkX3_143 rfl ps_0 (by decide) (by decide) ?_
      refine e_callN dX3_deciding_23 rfl csX3_170 (s_lastsOn hf (hod _ (by omega))) rfl rfl (ps_R (hod _ (by omega))) (by decide) (lt_RU (hod _ (by omega))) ⟨Nat.le_of_ble_eq_true rfl, Nat.le_of_ble_eq_true rfl⟩ ⟨Nat.le_of_ble_eq_true rfl, Nat.le_of_ble_eq_true rfl⟩ rfl rfl (Nat.le_of_ble_eq_true rfl) ?_
      refine e_if_eq_t (tgt := 48) dX3_deciding_26 (by decide) (bI0 (Bool.not_eq_true _ |>.mp h1)) ?_
      refine e_iinc_4 (v := nI (i + 1)) dX3_deciding_48 rfl (Nat.le_of_ble_eq_true rfl) rfl (nI_1 i) ?_
      refine e_goto (tgt := 3) dX3_deciding_51 (by decide) ?_
      exact ih
theorem s_inForceAhead {l : Launch} (hf : l.stackTraces = false) {M : pmM} {od : Nat → Nat} (hmr : M.2.1 = mrC od) (hod : ∀ p, p < 8 → od p < 8) {e : Nat} (he : e ≤ 8) : Sp l kX3_inForceAhead 64 1 0 0 [.ref 0, .int (nI e)] M (.inl (some (.int (nI (ifN (inF M od) e))))) M := by
  refine sp_of hf (by decide +kernel) (Nat.le_of_ble_eq_true rfl) (by intro v hv; simp at hv; rcases hv with rfl | rfl <;> rfl) rfl ?_
  refine e_iconst (v := nI 0) dX3_inForceAhead_0 rfl ic_0 ?_
  refine e_istore_2 dX3_inForceAhead_1 rfl (Nat.le_of_ble_eq_true rfl) rfl ?_
  refine e_iconst (v := nI 0) dX3_inForceAhead_2 rfl ic_0 ?_
  refine e_istore_3 dX3_inForceAhead_3 rfl (Nat.le_of_ble_eq_true rfl) rfl ?_
  refine loop_up (P := fun i => Ev l kX3_inForceAhead (gM 64 0 0 (.inl (some (.int (nI (ifN (inF M od) e))))) M) (rmd 1 0 0) 64 0 0 4 [some (.ref 0), some (.int (nI e)), some (.int (nI (ifN (inF M od) i))), some (.int (nI i))] [] M) ?_ (fun i hi ih => ?_) 0 (Nat.zero_le e)
  · refine e_iload_3 dX3_inForceAhead_4 rfl ?_
    refine e_iload_1 dX3_inForceAhead_5 rfl ?_
    refine e_nc_ge_t (tgt := 37) dX3_inForceAhead_6 (by decide) (by omega) (by omega) (Nat.le_refl _) ?_
    refine e_iload_2 dX3_inForceAhead_37 rfl ?_
    exact e_iret dX3_inForceAhead_38 rfl rfl (Nat.le_of_ble_eq_true rfl) (Nat.le_of_ble_eq_true rfl) rfl rfl
  · by_cases h1 : inF M od i = true
    · refine e_iload_3 dX3_inForceAhead_4 rfl ?_
      refine e_iload_1 dX3_inForceAhead_5 rfl ?_
      refine e_nc_ge_f dX3_inForceAhead_6 rfl ⟨37, by decide⟩ (by omega) (by omega) hi ?_
      refine e_aload_0 dX3_inForceAhead_9 rfl ?_
      refine e_getR dX3_inForceAhead_10 rfl lkX3_17 rfl ps_0 (by decide) (by decide) (mr_of hmr rfl) ?_
      refine e_iload_3 dX3_inForceAhead_13 rfl ?_
      refine e_aald dX3_inForceAhead_14 rfl ps_2 (by decide) (by decide) (by decide) rfl (by omega) (mr_of hmr (mr_order _ _)) ?_
      refine e_aload_0 dX3_inForceAhead_15 rfl ?_
      refine e_getI dX3_inForceAhead_16 rfl lkX3_143 rfl ps_0 (by decide) (by decide) ?_
      refine e_callN dX3_inForceAhead_19 rfl csX3_170 (s_lastsOn hf (hod _ (by omega))) rfl rfl (ps_R (hod _ (by omega))) (by decide) (lt_RU (hod _ (by omega))) ⟨Nat.le_of_ble_eq_true rfl, Nat.le_of_ble_eq_true rfl⟩ ⟨Nat.le_of_ble_eq_true rfl, Nat.le_of_ble_eq_true rfl⟩ rfl rfl (Nat.le_of_ble_eq_true rfl) ?_
      refine e_if_eq_f dX3_inForceAhead_22 rfl ⟨31, by decide⟩ (bI1 h1) ?_
      refine e_iload_2 dX3_inForceAhead_25 rfl ?_
      refine e_iconst (v := nI 1) dX3_inForceAhead_26 rfl ic_1 ?_
      refine e_iload_3 dX3_inForceAhead_27 rfl ?_
      refine e_ishl dX3_inForceAhead_28 rfl ?_
      refine e_ior dX3_inForceAhead_29 rfl ?_
      refine e_topi (nI (ifN (inF M od) i + 2 ^ i)) (ifN_or (by omega) (ifN_lt _ _)) ?_
      refine e_istore_2 dX3_inForceAhead_30 rfl (Nat.le_of_ble_eq_true rfl) rfl ?_
      refine e_iinc_3 (v := nI (i + 1)) dX3_inForceAhead_31 rfl (Nat.le_of_ble_eq_true rfl) rfl (nI_1 i) ?_
      refine e_goto (tgt := 4) dX3_inForceAhead_34 (by decide) ?_
      refine e_loc ?_ ih
      rw [ifN, if_pos h1]
    · refine e_iload_3 dX3_inForceAhead_4 rfl ?_
      refine e_iload_1 dX3_inForceAhead_5 rfl ?_
      refine e_nc_ge_f dX3_inForceAhead_6 rfl ⟨37, by decide⟩ (by omega) (by omega) hi ?_
      refine e_aload_0 dX3_inForceAhead_9 rfl ?_
      refine e_getR dX3_inForceAhead_10 rfl lkX3_17 rfl ps_0 (by decide) (by decide) (mr_of hmr rfl) ?_
      refine e_iload_3 dX3_inForceAhead_13 rfl ?_
      refine e_aald dX3_inForceAhead_14 rfl ps_2 (by decide) (by decide) (by decide) rfl (by omega) (mr_of hmr (mr_order _ _)) ?_
      refine e_aload_0 dX3_inForceAhead_15 rfl ?_
      refine e_getI dX3_inForceAhead_16 rfl lkX3_143 rfl ps_0 (by decide) (by decide) ?_
      refine e_callN dX3_inForceAhead_19 rfl csX3_170 (s_lastsOn hf (hod _ (by omega))) rfl rfl (ps_R (hod _ (by omega))) (by decide) (lt_RU (hod _ (by omega))) ⟨Nat.le_of_ble_eq_true rfl, Nat.le_of_ble_eq_true rfl⟩ ⟨Nat.le_of_ble_eq_true rfl, Nat.le_of_ble_eq_true rfl⟩ rfl rfl (Nat.le_of_ble_eq_true rfl) ?_
      refine e_if_eq_t (tgt := 31) dX3_inForceAhead_22 (by decide) (bI0 (Bool.not_eq_true _ |>.mp h1)) ?_
      refine e_iinc_3 (v := nI (i + 1)) dX3_inForceAhead_31 rfl (Nat.le_of_ble_eq_true rfl) rfl (nI_1 i) ?_
      refine e_goto (tgt := 4) dX3_inForceAhead_34 (by decide) ?_
      refine e_loc ?_ ih
      rw [ifN, if_neg h1]
theorem s_firstOf {l : Launch} (hf : l.stackTraces = false) {M : pmM} {x : Int32} : Sp l kX3_firstOf 64 1 0 0 [.int x] M (.inl (some (.int (foE x)))) M := by
  refine sp_of hf (by decide +kernel) (Nat.le_of_ble_eq_true rfl) (by intro v hv; simp at hv; subst hv; rfl) rfl ?_
  refine e_iload_0 dX3_firstOf_0 rfl ?_
  refine e_iload_0 dX3_firstOf_1 rfl ?_
  refine e_ineg dX3_firstOf_2 rfl ?_
  refine e_iand dX3_firstOf_3 rfl ?_
  refine e_istore_1 dX3_firstOf_4 rfl (Nat.le_of_ble_eq_true rfl) rfl ?_
  refine e_iload_1 dX3_firstOf_5 rfl ?_
  refine e_iconst (v := nI 1) dX3_firstOf_6 rfl ic_1 ?_
  refine e_isub dX3_firstOf_7 rfl ?_
  refine e_callS dX3_firstOf_8 rfl csX3_96 (s_bitCount hf) rfl rfl ⟨Nat.le_of_ble_eq_true rfl, Nat.le_of_ble_eq_true rfl⟩ ⟨Nat.le_of_ble_eq_true rfl, Nat.le_of_ble_eq_true rfl⟩ rfl rfl (Nat.le_of_ble_eq_true rfl) ?_
  refine e_bipush (v := nI 8) dX3_firstOf_11 rfl bc_8 ?_
  refine e_mmin dX3_firstOf_13 rfl mminX3_272 ⟨Nat.le_of_ble_eq_true rfl, Nat.le_of_ble_eq_true rfl⟩ ⟨Nat.le_of_ble_eq_true rfl, Nat.le_of_ble_eq_true rfl⟩ (Nat.le_of_ble_eq_true rfl) ?_
  exact e_iret dX3_firstOf_16 rfl rfl (Nat.le_of_ble_eq_true rfl) (Nat.le_of_ble_eq_true rfl) rfl rfl
theorem s_packetsIn {l : Launch} (hf : l.stackTraces = false) {M : pmM} {a b c : Int32} : Sp l kX3_packetsIn 64 1 0 0 [.int a, .int b, .int c] M (.inl (some (.int (pkE a b c)))) M := by
  refine sp_of hf (by decide +kernel) (Nat.le_of_ble_eq_true rfl) (by intro v hv; simp at hv; rcases hv with rfl | rfl | rfl <;> rfl) rfl ?_
  refine e_iload_0 dX3_packetsIn_0 rfl ?_
  refine e_callS dX3_packetsIn_1 rfl csX3_96 (s_bitCount hf) rfl rfl ⟨Nat.le_of_ble_eq_true rfl, Nat.le_of_ble_eq_true rfl⟩ ⟨Nat.le_of_ble_eq_true rfl, Nat.le_of_ble_eq_true rfl⟩ rfl rfl (Nat.le_of_ble_eq_true rfl) ?_
  refine e_iload_1 dX3_packetsIn_4 rfl ?_
  refine e_callS dX3_packetsIn_5 rfl csX3_96 (s_bitCount hf) rfl rfl ⟨Nat.le_of_ble_eq_true rfl, Nat.le_of_ble_eq_true rfl⟩ ⟨Nat.le_of_ble_eq_true rfl, Nat.le_of_ble_eq_true rfl⟩ rfl rfl (Nat.le_of_ble_eq_true rfl) ?_
  refine e_imul dX3_packetsIn_8 rfl ?_
  refine e_iload_2 dX3_packetsIn_9 rfl ?_
  refine e_callS dX3_packetsIn_10 rfl csX3_96 (s_bitCount hf) rfl rfl ⟨Nat.le_of_ble_eq_true rfl, Nat.le_of_ble_eq_true rfl⟩ ⟨Nat.le_of_ble_eq_true rfl, Nat.le_of_ble_eq_true rfl⟩ rfl rfl (Nat.le_of_ble_eq_true rfl) ?_
  refine e_imul dX3_packetsIn_13 rfl ?_
  exact e_iret dX3_packetsIn_14 rfl rfl (Nat.le_of_ble_eq_true rfl) (Nat.le_of_ble_eq_true rfl) rfl rfl
def pbE (M : pmM) (j k : Nat) : Int32 := pkE (M.1 (33 + 3 * j) 0 &&& M.1 (33 + 3 * k) 0) (M.1 (33 + 3 * j) 1 &&& M.1 (33 + 3 * k) 1) (M.1 (33 + 3 * j) 2 &&& M.1 (33 + 3 * k) 2)
theorem s_packetsInBoth {l : Launch} (hf : l.stackTraces = false) {M : pmM} {od : Nat → Nat} (hmr : M.2.1 = mrC od) {j k : Nat} (hj : j < 8) (hk : k < 8) : Sp l kX3_packetsInBoth 64 2 0 0 [.ref (31 + 3 * j), .ref (31 + 3 * k)] M (.inl (some (.int (pbE M j k)))) M := by
  refine sp_of hf (by decide +kernel) (Nat.le_of_ble_eq_true rfl) (by intro v hv; simp at hv; rcases hv with rfl | rfl <;> rfl) rfl ?_
  refine e_aload_0 dX3_packetsInBoth_0 rfl ?_
  refine e_getR dX3_packetsInBoth_1 rfl lkX3_262 rfl (ps_R hj) (by decide) (lt_RU hj) (mr_of hmr (mr_R9 _ hj)) ?_
  refine e_iconst (v := nI 0) dX3_packetsInBoth_4 rfl ic_0 ?_
  refine e_iald dX3_packetsInBoth_5 rfl (ps_M hj) (lt_RM hj) rfl (by omega) ?_
  refine e_aload_1 dX3_packetsInBoth_6 rfl ?_
  refine e_getR dX3_packetsInBoth_7 rfl lkX3_262 rfl (ps_R hk) (by decide) (lt_RU hk) (mr_of hmr (mr_R9 _ hk)) ?_
  refine e_iconst (v := nI 0) dX3_packetsInBoth_10 rfl ic_0 ?_
  refine e_iald dX3_packetsInBoth_11 rfl (ps_M hk) (lt_RM hk) rfl (by omega) ?_
  refine e_iand dX3_packetsInBoth_12 rfl ?_
  refine e_aload_0 dX3_packetsInBoth_13 rfl ?_
  refine e_getR dX3_packetsInBoth_14 rfl lkX3_262 rfl (ps_R hj) (by decide) (lt_RU hj) (mr_of hmr (mr_R9 _ hj)) ?_
  refine e_iconst (v := nI 1) dX3_packetsInBoth_17 rfl ic_1 ?_
  refine e_iald dX3_packetsInBoth_18 rfl (ps_M hj) (lt_RM hj) rfl (by omega) ?_
  refine e_aload_1 dX3_packetsInBoth_19 rfl ?_
  refine e_getR dX3_packetsInBoth_20 rfl lkX3_262 rfl (ps_R hk) (by decide) (lt_RU hk) (mr_of hmr (mr_R9 _ hk)) ?_
  refine e_iconst (v := nI 1) dX3_packetsInBoth_23 rfl ic_1 ?_
  refine e_iald dX3_packetsInBoth_24 rfl (ps_M hk) (lt_RM hk) rfl (by omega) ?_
  refine e_iand dX3_packetsInBoth_25 rfl ?_
  refine e_aload_0 dX3_packetsInBoth_26 rfl ?_
  refine e_getR dX3_packetsInBoth_27 rfl lkX3_262 rfl (ps_R hj) (by decide) (lt_RU hj) (mr_of hmr (mr_R9 _ hj)) ?_
  refine e_iconst (v := nI 2) dX3_packetsInBoth_30 rfl ic_2 ?_
  refine e_iald dX3_packetsInBoth_31 rfl (ps_M hj) (lt_RM hj) rfl (by omega) ?_
  refine e_aload_1 dX3_packetsInBoth_32 rfl ?_
  refine e_getR dX3_packetsInBoth_33 rfl lkX3_262 rfl (ps_R hk) (by decide) (lt_RU hk) (mr_of hmr (mr_R9 _ hk)) ?_
  refine e_iconst (v := nI 2) dX3_packetsInBoth_36 rfl ic_2 ?_
  refine e_iald dX3_packetsInBoth_37 rfl (ps_M hk) (lt_RM hk) rfl (by omega) ?_
  refine e_iand dX3_packetsInBoth_38 rfl ?_
  refine e_callS dX3_packetsInBoth_39 rfl csX3_269 (s_packetsIn hf) rfl rfl ⟨Nat.le_of_ble_eq_true rfl, Nat.le_of_ble_eq_true rfl⟩ ⟨Nat.le_of_ble_eq_true rfl, Nat.le_of_ble_eq_true rfl⟩ rfl rfl (Nat.le_of_ble_eq_true rfl) ?_
  exact e_iret dX3_packetsInBoth_42 rfl rfl (Nat.le_of_ble_eq_true rfl) (Nat.le_of_ble_eq_true rfl) rfl rfl
theorem s_leftOver {l : Launch} (hf : l.stackTraces = false) {M : pmM} {od : Nat → Nat} (hmr : M.2.1 = mrC od) (hod : ∀ p, p < 8 → od p < 8) : ∀ (f m : Nat) (s t v : Int32), m < 256 → pcn m < f → Sp l kX3_leftOver 64 (f + 1) 0 0 [.ref 2, .int (nI m), .int s, .int t, .int v] M (.inl (some (.int (loE M od f m s t v)))) M := by
  intro f
  induction f with
  | zero =>
    intro m s t v hm hp
    exact absurd hp (Nat.not_lt_zero _)
  | succ f ihf =>
    intro m s t v hm hp
    refine sp_of hf (by decide +kernel) (Nat.le_of_ble_eq_true rfl) (by intro v hv; simp at hv; rcases hv with rfl | rfl | rfl | rfl | rfl <;> rfl) rfl ?_
    by_cases hz : s = 0 ∨ t = 0 ∨ v = 0
    · have hr : nI 0 = loE M od (f + 1) m s t v := by rw [loE, if_pos hz]
      rcases hz with rfl | h2
      · skip
        refine e_iload_2 dX3_leftOver_0 rfl ?_
        refine e_if_eq_t (tgt := 13) dX3_leftOver_1 (by decide) rfl ?_
        refine e_iconst (v := nI 0) dX3_leftOver_13 rfl ic_0 ?_
        exact e_iret dX3_leftOver_14 rfl rfl (Nat.le_of_ble_eq_true rfl) (Nat.le_of_ble_eq_true rfl) hr rfl
      · by_cases h1 : s = 0
        · refine e_iload_2 dX3_leftOver_0 rfl ?_
          refine e_if_eq_t (tgt := 13) dX3_leftOver_1 (by decide) h1 ?_
          refine e_iconst (v := nI 0) dX3_leftOver_13 rfl ic_0 ?_
          exact e_iret dX3_leftOver_14 rfl rfl (Nat.le_of_ble_eq_true rfl) (Nat.le_of_ble_eq_true rfl) hr rfl
        · rcases h2 with rfl | rfl
          · refine e_iload_2 dX3_leftOver_0 rfl ?_
            refine e_if_eq_f dX3_leftOver_1 rfl ⟨13, by decide⟩ h1 ?_
            refine e_iload_3 dX3_leftOver_4 rfl ?_
            refine e_if_eq_t (tgt := 13) dX3_leftOver_5 (by decide) rfl ?_
            refine e_iconst (v := nI 0) dX3_leftOver_13 rfl ic_0 ?_
            exact e_iret dX3_leftOver_14 rfl rfl (Nat.le_of_ble_eq_true rfl) (Nat.le_of_ble_eq_true rfl) hr rfl
          · by_cases h2 : t = 0
            · refine e_iload_2 dX3_leftOver_0 rfl ?_
              refine e_if_eq_f dX3_leftOver_1 rfl ⟨13, by decide⟩ h1 ?_
              refine e_iload_3 dX3_leftOver_4 rfl ?_
              refine e_if_eq_t (tgt := 13) dX3_leftOver_5 (by decide) h2 ?_
              refine e_iconst (v := nI 0) dX3_leftOver_13 rfl ic_0 ?_
              exact e_iret dX3_leftOver_14 rfl rfl (Nat.le_of_ble_eq_true rfl) (Nat.le_of_ble_eq_true rfl) hr rfl
            · refine e_iload_2 dX3_leftOver_0 rfl ?_
              refine e_if_eq_f dX3_leftOver_1 rfl ⟨13, by decide⟩ h1 ?_
              refine e_iload_3 dX3_leftOver_4 rfl ?_
              refine e_if_eq_f dX3_leftOver_5 rfl ⟨13, by decide⟩ h2 ?_
              refine e_iload_4 dX3_leftOver_8 rfl ?_
              refine e_if_ne_f dX3_leftOver_10 rfl ⟨15, by decide⟩ rfl ?_
              refine e_iconst (v := nI 0) dX3_leftOver_13 rfl ic_0 ?_
              exact e_iret dX3_leftOver_14 rfl rfl (Nat.le_of_ble_eq_true rfl) (Nat.le_of_ble_eq_true rfl) hr rfl
    · have h1 : ¬ s = 0 := fun q => hz (Or.inl q)
      have h2 : ¬ t = 0 := fun q => hz (Or.inr (Or.inl q))
      have h3 : ¬ v = 0 := fun q => hz (Or.inr (Or.inr q))
      have hfo := fo_le m
      by_cases h8 : 8 ≤ fo m
      · refine e_iload_2 dX3_leftOver_0 rfl ?_
        refine e_if_eq_f dX3_leftOver_1 rfl ⟨13, by decide⟩ h1 ?_
        refine e_iload_3 dX3_leftOver_4 rfl ?_
        refine e_if_eq_f dX3_leftOver_5 rfl ⟨13, by decide⟩ h2 ?_
        refine e_iload_4 dX3_leftOver_8 rfl ?_
        refine e_if_ne_t (tgt := 15) dX3_leftOver_10 (by decide) h3 ?_
        refine e_iload_1 dX3_leftOver_15 rfl ?_
        refine e_callS dX3_leftOver_16 rfl csX3_281 (s_firstOf hf) rfl rfl ⟨show 10 * 1 + 1 ≤ 10 * (f + 1 + 1) by omega, show 8 + (2 + 11) + 128 * 1 ≤ 128 * (f + 1 + 1) by omega⟩ ⟨Nat.le_of_ble_eq_true rfl, Nat.le_of_ble_eq_true rfl⟩ rfl rfl (Nat.le_of_ble_eq_true rfl) ?_
        refine e_topi (nI (fo m)) (foE_eq hm) ?_
        refine e_istore_5 dX3_leftOver_19 rfl (Nat.le_of_ble_eq_true rfl) rfl ?_
        refine e_iload_5 dX3_leftOver_21 rfl ?_
        refine e_bipush (v := nI 8) dX3_leftOver_23 rfl bc_8 ?_
        refine e_nc_lt_f dX3_leftOver_25 rfl ⟨36, by decide⟩ (by omega) (by omega) h8 ?_
        refine e_iload_2 dX3_leftOver_28 rfl ?_
        refine e_iload_3 dX3_leftOver_29 rfl ?_
        refine e_iload_4 dX3_leftOver_30 rfl ?_
        refine e_callS dX3_leftOver_32 rfl csX3_269 (s_packetsIn hf) rfl rfl ⟨show 10 * 1 + 1 ≤ 10 * (f + 1 + 1) by omega, show 8 + (3 + 11) + 128 * 1 ≤ 128 * (f + 1 + 1) by omega⟩ ⟨Nat.le_of_ble_eq_true rfl, Nat.le_of_ble_eq_true rfl⟩ rfl rfl (Nat.le_of_ble_eq_true rfl) ?_
        exact e_iret dX3_leftOver_35 rfl rfl (Nat.le_of_ble_eq_true rfl) (Nat.le_of_ble_eq_true rfl) (by rw [loE, if_neg hz, if_pos h8]) rfl
      · have h8 : fo m < 8 := Nat.not_le.mp h8
        have hj := hod _ h8
        have hpc : pcn (clr m (fo m)) < f := Nat.lt_of_lt_of_le (clr_pc hm h8) (Nat.le_of_lt_succ hp)
        refine e_iload_2 dX3_leftOver_0 rfl ?_
        refine e_if_eq_f dX3_leftOver_1 rfl ⟨13, by decide⟩ h1 ?_
        refine e_iload_3 dX3_leftOver_4 rfl ?_
        refine e_if_eq_f dX3_leftOver_5 rfl ⟨13, by decide⟩ h2 ?_
        refine e_iload_4 dX3_leftOver_8 rfl ?_
        refine e_if_ne_t (tgt := 15) dX3_leftOver_10 (by decide) h3 ?_
        refine e_iload_1 dX3_leftOver_15 rfl ?_
        refine e_callS dX3_leftOver_16 rfl csX3_281 (s_firstOf hf) rfl rfl ⟨show 10 * 1 + 1 ≤ 10 * (f + 1 + 1) by omega, show 8 + (2 + 11) + 128 * 1 ≤ 128 * (f + 1 + 1) by omega⟩ ⟨Nat.le_of_ble_eq_true rfl, Nat.le_of_ble_eq_true rfl⟩ rfl rfl (Nat.le_of_ble_eq_true rfl) ?_
        refine e_topi (nI (fo m)) (foE_eq hm) ?_
        refine e_istore_5 dX3_leftOver_19 rfl (Nat.le_of_ble_eq_true rfl) rfl ?_
        refine e_iload_5 dX3_leftOver_21 rfl ?_
        refine e_bipush (v := nI 8) dX3_leftOver_23 rfl bc_8 ?_
        refine e_nc_lt_t (tgt := 36) dX3_leftOver_25 (by decide) (by omega) (by omega) h8 ?_
        refine e_aload_0 dX3_leftOver_36 rfl ?_
        refine e_iload_5 dX3_leftOver_37 rfl ?_
        refine e_aald dX3_leftOver_39 rfl ps_2 (by decide) (by decide) (by decide) rfl (by omega) (mr_of hmr (mr_order _ _)) ?_
        refine e_getR dX3_leftOver_40 rfl lkX3_262 rfl (ps_R hj) (by decide) (lt_RU hj) (mr_of hmr (mr_R9 _ hj)) ?_
        refine e_astore_6 dX3_leftOver_43 rfl (Nat.le_of_ble_eq_true rfl) rfl ?_
        refine e_iload_1 dX3_leftOver_45 rfl ?_
        refine e_iconst (v := nI 1) dX3_leftOver_46 rfl ic_1 ?_
        refine e_iload_5 dX3_leftOver_47 rfl ?_
        refine e_ishl dX3_leftOver_49 rfl ?_
        refine e_iconst (v := -1) dX3_leftOver_50 rfl ic_m1 ?_
        refine e_ixor dX3_leftOver_51 rfl ?_
        refine e_iand dX3_leftOver_52 rfl ?_
        refine e_topi (nI (clr m (fo m))) (clr_eq hm h8) ?_
        refine e_istore_7 dX3_leftOver_53 rfl (Nat.le_of_ble_eq_true rfl) rfl ?_
        refine e_iload_2 dX3_leftOver_55 rfl ?_
        refine e_aload_6 dX3_leftOver_56 rfl ?_
        refine e_iconst (v := nI 0) dX3_leftOver_58 rfl ic_0 ?_
        refine e_iald dX3_leftOver_59 rfl (ps_M hj) (lt_RM hj) rfl (by omega) ?_
        refine e_iand dX3_leftOver_60 rfl ?_
        refine e_istore_8 dX3_leftOver_61 rfl (Nat.le_of_ble_eq_true rfl) rfl ?_
        refine e_iload_3 dX3_leftOver_63 rfl ?_
        refine e_aload_6 dX3_leftOver_64 rfl ?_
        refine e_iconst (v := nI 1) dX3_leftOver_66 rfl ic_1 ?_
        refine e_iald dX3_leftOver_67 rfl (ps_M hj) (lt_RM hj) rfl (by omega) ?_
        refine e_iand dX3_leftOver_68 rfl ?_
        refine e_istore_9 dX3_leftOver_69 rfl (Nat.le_of_ble_eq_true rfl) rfl ?_
        refine e_aload_0 dX3_leftOver_71 rfl ?_
        refine e_iload_7 dX3_leftOver_72 rfl ?_
        refine e_iload_2 dX3_leftOver_74 rfl ?_
        refine e_aload_6 dX3_leftOver_75 rfl ?_
        refine e_iconst (v := nI 0) dX3_leftOver_77 rfl ic_0 ?_
        refine e_iald dX3_leftOver_78 rfl (ps_M hj) (lt_RM hj) rfl (by omega) ?_
        refine e_iconst (v := -1) dX3_leftOver_79 rfl ic_m1 ?_
        refine e_ixor dX3_leftOver_80 rfl ?_
        refine e_iand dX3_leftOver_81 rfl ?_
        refine e_iload_3 dX3_leftOver_82 rfl ?_
        refine e_iload_4 dX3_leftOver_83 rfl ?_
        refine e_callS dX3_leftOver_85 rfl csX3_277 (ihf (clr m (fo m)) _ _ _ (clr_lt hm) hpc) rfl rfl ⟨show 10 * (f + 1) + 1 ≤ 10 * (f + 1 + 1) by omega, show 8 + (10 + 11) + 128 * (f + 1) ≤ 128 * (f + 1 + 1) by omega⟩ ⟨Nat.le_of_ble_eq_true rfl, Nat.le_of_ble_eq_true rfl⟩ rfl rfl (Nat.le_of_ble_eq_true rfl) ?_
        refine e_aload_0 dX3_leftOver_88 rfl ?_
        refine e_iload_7 dX3_leftOver_89 rfl ?_
        refine e_iload_8 dX3_leftOver_91 rfl ?_
        refine e_iload_3 dX3_leftOver_93 rfl ?_
        refine e_aload_6 dX3_leftOver_94 rfl ?_
        refine e_iconst (v := nI 1) dX3_leftOver_96 rfl ic_1 ?_
        refine e_iald dX3_leftOver_97 rfl (ps_M hj) (lt_RM hj) rfl (by omega) ?_
        refine e_iconst (v := -1) dX3_leftOver_98 rfl ic_m1 ?_
        refine e_ixor dX3_leftOver_99 rfl ?_
        refine e_iand dX3_leftOver_100 rfl ?_
        refine e_iload_4 dX3_leftOver_101 rfl ?_
        refine e_callS dX3_leftOver_103 rfl csX3_277 (ihf (clr m (fo m)) _ _ _ (clr_lt hm) hpc) rfl rfl ⟨show 10 * (f + 1) + 1 ≤ 10 * (f + 1 + 1) by omega, show 8 + (10 + 11) + 128 * (f + 1) ≤ 128 * (f + 1 + 1) by omega⟩ ⟨Nat.le_of_ble_eq_true rfl, Nat.le_of_ble_eq_true rfl⟩ rfl rfl (Nat.le_of_ble_eq_true rfl) ?_
        refine e_iadd dX3_leftOver_106 rfl ?_
        refine e_aload_0 dX3_leftOver_107 rfl ?_
        refine e_iload_7 dX3_leftOver_108 rfl ?_
        refine e_iload_8 dX3_leftOver_110 rfl ?_
        refine e_iload_9 dX3_leftOver_112 rfl ?_
        refine e_iload_4 dX3_leftOver_114 rfl ?_
        refine e_aload_6 dX3_leftOver_116 rfl ?_
        refine e_iconst (v := nI 2) dX3_leftOver_118 rfl ic_2 ?_
        refine e_iald dX3_leftOver_119 rfl (ps_M hj) (lt_RM hj) rfl (by omega) ?_
        refine e_iconst (v := -1) dX3_leftOver_120 rfl ic_m1 ?_
        refine e_ixor dX3_leftOver_121 rfl ?_
        refine e_iand dX3_leftOver_122 rfl ?_
        refine e_callS dX3_leftOver_123 rfl csX3_277 (ihf (clr m (fo m)) _ _ _ (clr_lt hm) hpc) rfl rfl ⟨show 10 * (f + 1) + 1 ≤ 10 * (f + 1 + 1) by omega, show 8 + (10 + 11) + 128 * (f + 1) ≤ 128 * (f + 1 + 1) by omega⟩ ⟨Nat.le_of_ble_eq_true rfl, Nat.le_of_ble_eq_true rfl⟩ rfl rfl (Nat.le_of_ble_eq_true rfl) ?_
        refine e_iadd dX3_leftOver_126 rfl ?_
        exact e_iret dX3_leftOver_127 rfl rfl (Nat.le_of_ble_eq_true rfl) (Nat.le_of_ble_eq_true rfl) (by rw [loE, if_neg hz, if_neg (Nat.not_le.mpr h8)]) rfl
def lbE (M : pmM) (od : Nat → Nat) (j k m : Nat) : Int32 := loE M od 9 m (M.1 (33 + 3 * j) 0 &&& M.1 (33 + 3 * k) 0) (M.1 (33 + 3 * j) 1 &&& M.1 (33 + 3 * k) 1) (M.1 (33 + 3 * j) 2 &&& M.1 (33 + 3 * k) 2)
theorem s_leftOfBoth {l : Launch} (hf : l.stackTraces = false) {M : pmM} {od : Nat → Nat} (hmr : M.2.1 = mrC od) (hod : ∀ p, p < 8 → od p < 8) {j k m : Nat} (hj : j < 8) (hk : k < 8) (hm : m < 256) : Sp l kX3_leftOfBoth 64 11 0 0 [.ref 0, .ref (31 + 3 * j), .ref (31 + 3 * k), .int (nI m)] M (.inl (some (.int (lbE M od j k m)))) M := by
  refine sp_of hf (by decide +kernel) (Nat.le_of_ble_eq_true rfl) (by intro v hv; simp at hv; rcases hv with rfl | rfl | rfl | rfl <;> rfl) rfl ?_
  refine e_aload_0 dX3_leftOfBoth_0 rfl ?_
  refine e_getR dX3_leftOfBoth_1 rfl lkX3_17 rfl ps_0 (by decide) (by decide) (mr_of hmr rfl) ?_
  refine e_iload_3 dX3_leftOfBoth_4 rfl ?_
  refine e_aload_1 dX3_leftOfBoth_5 rfl ?_
  refine e_getR dX3_leftOfBoth_6 rfl lkX3_262 rfl (ps_R hj) (by decide) (lt_RU hj) (mr_of hmr (mr_R9 _ hj)) ?_
  refine e_iconst (v := nI 0) dX3_leftOfBoth_9 rfl ic_0 ?_
  refine e_iald dX3_leftOfBoth_10 rfl (ps_M hj) (lt_RM hj) rfl (by omega) ?_
  refine e_aload_2 dX3_leftOfBoth_11 rfl ?_
  refine e_getR dX3_leftOfBoth_12 rfl lkX3_262 rfl (ps_R hk) (by decide) (lt_RU hk) (mr_of hmr (mr_R9 _ hk)) ?_
  refine e_iconst (v := nI 0) dX3_leftOfBoth_15 rfl ic_0 ?_
  refine e_iald dX3_leftOfBoth_16 rfl (ps_M hk) (lt_RM hk) rfl (by omega) ?_
  refine e_iand dX3_leftOfBoth_17 rfl ?_
  refine e_aload_1 dX3_leftOfBoth_18 rfl ?_
  refine e_getR dX3_leftOfBoth_19 rfl lkX3_262 rfl (ps_R hj) (by decide) (lt_RU hj) (mr_of hmr (mr_R9 _ hj)) ?_
  refine e_iconst (v := nI 1) dX3_leftOfBoth_22 rfl ic_1 ?_
  refine e_iald dX3_leftOfBoth_23 rfl (ps_M hj) (lt_RM hj) rfl (by omega) ?_
  refine e_aload_2 dX3_leftOfBoth_24 rfl ?_
  refine e_getR dX3_leftOfBoth_25 rfl lkX3_262 rfl (ps_R hk) (by decide) (lt_RU hk) (mr_of hmr (mr_R9 _ hk)) ?_
  refine e_iconst (v := nI 1) dX3_leftOfBoth_28 rfl ic_1 ?_
  refine e_iald dX3_leftOfBoth_29 rfl (ps_M hk) (lt_RM hk) rfl (by omega) ?_
  refine e_iand dX3_leftOfBoth_30 rfl ?_
  refine e_aload_1 dX3_leftOfBoth_31 rfl ?_
  refine e_getR dX3_leftOfBoth_32 rfl lkX3_262 rfl (ps_R hj) (by decide) (lt_RU hj) (mr_of hmr (mr_R9 _ hj)) ?_
  refine e_iconst (v := nI 2) dX3_leftOfBoth_35 rfl ic_2 ?_
  refine e_iald dX3_leftOfBoth_36 rfl (ps_M hj) (lt_RM hj) rfl (by omega) ?_
  refine e_aload_2 dX3_leftOfBoth_37 rfl ?_
  refine e_getR dX3_leftOfBoth_38 rfl lkX3_262 rfl (ps_R hk) (by decide) (lt_RU hk) (mr_of hmr (mr_R9 _ hk)) ?_
  refine e_iconst (v := nI 2) dX3_leftOfBoth_41 rfl ic_2 ?_
  refine e_iald dX3_leftOfBoth_42 rfl (ps_M hk) (lt_RM hk) rfl (by omega) ?_
  refine e_iand dX3_leftOfBoth_43 rfl ?_
  refine e_callS dX3_leftOfBoth_44 rfl csX3_277 (s_leftOver hf hmr hod 9 m _ _ _ hm (Nat.lt_succ_of_le (pcn_le m))) rfl rfl ⟨Nat.le_of_ble_eq_true rfl, Nat.le_of_ble_eq_true rfl⟩ ⟨Nat.le_of_ble_eq_true rfl, Nat.le_of_ble_eq_true rfl⟩ rfl rfl (Nat.le_of_ble_eq_true rfl) ?_
  exact e_iret dX3_leftOfBoth_47 rfl rfl (Nat.le_of_ble_eq_true rfl) (Nat.le_of_ble_eq_true rfl) rfl rfl
def deE (M : pmM) (od : Nat → Nat) (p : Nat) : Int32 := if inF M od p = true then lbE M od (od p) (od p) (ifN (inF M od) p) else nI 0
theorem ifN_256 (b : Nat → Bool) {n : Nat} (h : n ≤ 8) : ifN b n < 256 := Nat.lt_of_lt_of_le (ifN_lt b n) (Nat.pow_le_pow_right (by decide) h)
theorem s_decidedAt {l : Launch} (hf : l.stackTraces = false) {M : pmM} {od : Nat → Nat} (hmr : M.2.1 = mrC od) (hod : ∀ p, p < 8 → od p < 8) {p : Nat} (hp : p < 8) : Sp l kX3_decidedAt 64 12 0 0 [.ref 0, .int (nI p)] M (.inl (some (.int (deE M od p)))) M := by
  refine sp_of hf (by decide +kernel) (Nat.le_of_ble_eq_true rfl) (by intro v hv; simp at hv; rcases hv with rfl | rfl <;> rfl) rfl ?_
  by_cases h1 : inF M od p = true
  · refine e_aload_0 dX3_decidedAt_0 rfl ?_
    refine e_getR dX3_decidedAt_1 rfl lkX3_17 rfl ps_0 (by decide) (by decide) (mr_of hmr rfl) ?_
    refine e_iload_1 dX3_decidedAt_4 rfl ?_
    refine e_aald dX3_decidedAt_5 rfl ps_2 (by decide) (by decide) (by decide) rfl (by omega) (mr_of hmr (mr_order _ _)) ?_
    refine e_astore_2 dX3_decidedAt_6 rfl (Nat.le_of_ble_eq_true rfl) rfl ?_
    refine e_aload_2 dX3_decidedAt_7 rfl ?_
    refine e_aload_0 dX3_decidedAt_8 rfl ?_
    refine e_getI dX3_decidedAt_9 rfl lkX3_143 rfl ps_0 (by decide) (by decide) ?_
    refine e_callN dX3_decidedAt_12 rfl csX3_170 (s_lastsOn hf (hod _ hp)) rfl rfl (ps_R (hod _ hp)) (by decide) (lt_RU (hod _ hp)) ⟨Nat.le_of_ble_eq_true rfl, Nat.le_of_ble_eq_true rfl⟩ ⟨Nat.le_of_ble_eq_true rfl, Nat.le_of_ble_eq_true rfl⟩ rfl rfl (Nat.le_of_ble_eq_true rfl) ?_
    refine e_if_eq_f dX3_decidedAt_15 rfl ⟨32, by decide⟩ (bI1 h1) ?_
    refine e_aload_0 dX3_decidedAt_18 rfl ?_
    refine e_aload_2 dX3_decidedAt_19 rfl ?_
    refine e_aload_2 dX3_decidedAt_20 rfl ?_
    refine e_aload_0 dX3_decidedAt_21 rfl ?_
    refine e_iload_1 dX3_decidedAt_22 rfl ?_
    refine e_callV dX3_decidedAt_23 rfl csX3_237 (s_inForceAhead hf hmr hod (Nat.le_of_lt hp)) rfl rfl ps_0 (by decide) (by decide) ⟨Nat.le_of_ble_eq_true rfl, Nat.le_of_ble_eq_true rfl⟩ ⟨Nat.le_of_ble_eq_true rfl, Nat.le_of_ble_eq_true rfl⟩ rfl rfl (Nat.le_of_ble_eq_true rfl) ?_
    refine e_callV dX3_decidedAt_26 rfl csX3_284 (s_leftOfBoth hf hmr hod (hod _ hp) (hod _ hp) (ifN_256 _ (Nat.le_of_lt hp))) rfl rfl ps_0 (by decide) (by decide) ⟨Nat.le_of_ble_eq_true rfl, Nat.le_of_ble_eq_true rfl⟩ ⟨Nat.le_of_ble_eq_true rfl, Nat.le_of_ble_eq_true rfl⟩ rfl rfl (Nat.le_of_ble_eq_true rfl) ?_
    refine e_goto (tgt := 33) dX3_decidedAt_29 (by decide) ?_
    exact e_iret dX3_decidedAt_33 rfl rfl (Nat.le_of_ble_eq_true rfl) (Nat.le_of_ble_eq_true rfl) (if_pos h1).symm rfl
  · refine e_aload_0 dX3_decidedAt_0 rfl ?_
    refine e_getR dX3_decidedAt_1 rfl lkX3_17 rfl ps_0 (by decide) (by decide) (mr_of hmr rfl) ?_
    refine e_iload_1 dX3_decidedAt_4 rfl ?_
    refine e_aald dX3_decidedAt_5 rfl ps_2 (by decide) (by decide) (by decide) rfl (by omega) (mr_of hmr (mr_order _ _)) ?_
    refine e_astore_2 dX3_decidedAt_6 rfl (Nat.le_of_ble_eq_true rfl) rfl ?_
    refine e_aload_2 dX3_decidedAt_7 rfl ?_
    refine e_aload_0 dX3_decidedAt_8 rfl ?_
    refine e_getI dX3_decidedAt_9 rfl lkX3_143 rfl ps_0 (by decide) (by decide) ?_
    refine e_callN dX3_decidedAt_12 rfl csX3_170 (s_lastsOn hf (hod _ hp)) rfl rfl (ps_R (hod _ hp)) (by decide) (lt_RU (hod _ hp)) ⟨Nat.le_of_ble_eq_true rfl, Nat.le_of_ble_eq_true rfl⟩ ⟨Nat.le_of_ble_eq_true rfl, Nat.le_of_ble_eq_true rfl⟩ rfl rfl (Nat.le_of_ble_eq_true rfl) ?_
    refine e_if_eq_t (tgt := 32) dX3_decidedAt_15 (by decide) (bI0 (Bool.not_eq_true _ |>.mp h1)) ?_
    refine e_iconst (v := nI 0) dX3_decidedAt_32 rfl ic_0 ?_
    exact e_iret dX3_decidedAt_33 rfl rfl (Nat.le_of_ble_eq_true rfl) (Nat.le_of_ble_eq_true rfl) (if_neg h1).symm rfl
def shF (M : pmM) (od : Nat → Nat) (p : Nat) : Bool := inF M od p && decide (deE M od p = 0)
theorem s_isShadowedAt {l : Launch} (hf : l.stackTraces = false) {M : pmM} {od : Nat → Nat} (hmr : M.2.1 = mrC od) (hod : ∀ p, p < 8 → od p < 8) {p : Nat} (hp : p < 8) : Sp l kX3_isShadowedAt 64 13 0 0 [.ref 0, .int (nI p)] M (.inl (some (.int (bI (shF M od p))))) M := by
  refine sp_of hf (by decide +kernel) (Nat.le_of_ble_eq_true rfl) (by intro v hv; simp at hv; rcases hv with rfl | rfl <;> rfl) rfl ?_
  by_cases h1 : inF M od p = true
  · by_cases h2 : deE M od p = 0
    · refine e_aload_0 dX3_isShadowedAt_0 rfl ?_
      refine e_getR dX3_isShadowedAt_1 rfl lkX3_17 rfl ps_0 (by decide) (by decide) (mr_of hmr rfl) ?_
      refine e_iload_1 dX3_isShadowedAt_4 rfl ?_
      refine e_aald dX3_isShadowedAt_5 rfl ps_2 (by decide) (by decide) (by decide) rfl (by omega) (mr_of hmr (mr_order _ _)) ?_
      refine e_aload_0 dX3_isShadowedAt_6 rfl ?_
      refine e_getI dX3_isShadowedAt_7 rfl lkX3_143 rfl ps_0 (by decide) (by decide) ?_
      refine e_callN dX3_isShadowedAt_10 rfl csX3_170 (s_lastsOn hf (hod _ hp)) rfl rfl (ps_R (hod _ hp)) (by decide) (lt_RU (hod _ hp)) ⟨Nat.le_of_ble_eq_true rfl, Nat.le_of_ble_eq_true rfl⟩ ⟨Nat.le_of_ble_eq_true rfl, Nat.le_of_ble_eq_true rfl⟩ rfl rfl (Nat.le_of_ble_eq_true rfl) ?_
      refine e_if_eq_f dX3_isShadowedAt_13 rfl ⟨28, by decide⟩ (bI1 h1) ?_
      refine e_aload_0 dX3_isShadowedAt_16 rfl ?_
      refine e_iload_1 dX3_isShadowedAt_17 rfl ?_
      refine e_callV dX3_isShadowedAt_18 rfl csX3_213 (s_decidedAt hf hmr hod hp) rfl rfl ps_0 (by decide) (by decide) ⟨Nat.le_of_ble_eq_true rfl, Nat.le_of_ble_eq_true rfl⟩ ⟨Nat.le_of_ble_eq_true rfl, Nat.le_of_ble_eq_true rfl⟩ rfl rfl (Nat.le_of_ble_eq_true rfl) ?_
      refine e_if_ne_f dX3_isShadowedAt_21 rfl ⟨28, by decide⟩ h2 ?_
      refine e_iconst (v := nI 1) dX3_isShadowedAt_24 rfl ic_1 ?_
      refine e_goto (tgt := 29) dX3_isShadowedAt_25 (by decide) ?_
      exact e_iret dX3_isShadowedAt_29 rfl rfl (Nat.le_of_ble_eq_true rfl) (Nat.le_of_ble_eq_true rfl) (bI_t (by simp [shF, h1, h2])).symm rfl
    · refine e_aload_0 dX3_isShadowedAt_0 rfl ?_
      refine e_getR dX3_isShadowedAt_1 rfl lkX3_17 rfl ps_0 (by decide) (by decide) (mr_of hmr rfl) ?_
      refine e_iload_1 dX3_isShadowedAt_4 rfl ?_
      refine e_aald dX3_isShadowedAt_5 rfl ps_2 (by decide) (by decide) (by decide) rfl (by omega) (mr_of hmr (mr_order _ _)) ?_
      refine e_aload_0 dX3_isShadowedAt_6 rfl ?_
      refine e_getI dX3_isShadowedAt_7 rfl lkX3_143 rfl ps_0 (by decide) (by decide) ?_
      refine e_callN dX3_isShadowedAt_10 rfl csX3_170 (s_lastsOn hf (hod _ hp)) rfl rfl (ps_R (hod _ hp)) (by decide) (lt_RU (hod _ hp)) ⟨Nat.le_of_ble_eq_true rfl, Nat.le_of_ble_eq_true rfl⟩ ⟨Nat.le_of_ble_eq_true rfl, Nat.le_of_ble_eq_true rfl⟩ rfl rfl (Nat.le_of_ble_eq_true rfl) ?_
      refine e_if_eq_f dX3_isShadowedAt_13 rfl ⟨28, by decide⟩ (bI1 h1) ?_
      refine e_aload_0 dX3_isShadowedAt_16 rfl ?_
      refine e_iload_1 dX3_isShadowedAt_17 rfl ?_
      refine e_callV dX3_isShadowedAt_18 rfl csX3_213 (s_decidedAt hf hmr hod hp) rfl rfl ps_0 (by decide) (by decide) ⟨Nat.le_of_ble_eq_true rfl, Nat.le_of_ble_eq_true rfl⟩ ⟨Nat.le_of_ble_eq_true rfl, Nat.le_of_ble_eq_true rfl⟩ rfl rfl (Nat.le_of_ble_eq_true rfl) ?_
      refine e_if_ne_t (tgt := 28) dX3_isShadowedAt_21 (by decide) h2 ?_
      refine e_iconst (v := nI 0) dX3_isShadowedAt_28 rfl ic_0 ?_
      exact e_iret dX3_isShadowedAt_29 rfl rfl (Nat.le_of_ble_eq_true rfl) (Nat.le_of_ble_eq_true rfl) (bI_f (by simp [shF, h1, h2])).symm rfl
  · refine e_aload_0 dX3_isShadowedAt_0 rfl ?_
    refine e_getR dX3_isShadowedAt_1 rfl lkX3_17 rfl ps_0 (by decide) (by decide) (mr_of hmr rfl) ?_
    refine e_iload_1 dX3_isShadowedAt_4 rfl ?_
    refine e_aald dX3_isShadowedAt_5 rfl ps_2 (by decide) (by decide) (by decide) rfl (by omega) (mr_of hmr (mr_order _ _)) ?_
    refine e_aload_0 dX3_isShadowedAt_6 rfl ?_
    refine e_getI dX3_isShadowedAt_7 rfl lkX3_143 rfl ps_0 (by decide) (by decide) ?_
    refine e_callN dX3_isShadowedAt_10 rfl csX3_170 (s_lastsOn hf (hod _ hp)) rfl rfl (ps_R (hod _ hp)) (by decide) (lt_RU (hod _ hp)) ⟨Nat.le_of_ble_eq_true rfl, Nat.le_of_ble_eq_true rfl⟩ ⟨Nat.le_of_ble_eq_true rfl, Nat.le_of_ble_eq_true rfl⟩ rfl rfl (Nat.le_of_ble_eq_true rfl) ?_
    refine e_if_eq_t (tgt := 28) dX3_isShadowedAt_13 (by decide) (bI0 (Bool.not_eq_true _ |>.mp h1)) ?_
    refine e_iconst (v := nI 0) dX3_isShadowedAt_28 rfl ic_0 ?_
    exact e_iret dX3_isShadowedAt_29 rfl rfl (Nat.le_of_ble_eq_true rfl) (Nat.le_of_ble_eq_true rfl) (bI_f (by simp [shF, h1])).symm rfl
