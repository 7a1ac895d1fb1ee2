/-! ===== the model: a rule leaves; the order by hits ===== -/
theorem bkC_1 {M M' : pmM} (h : ∀ a j, (a = 73 ∨ a = 74 ∨ a = 76) → M'.1 a j = M.1 a j) (h1 : M'.1 64 1 = M.1 64 1) (S : Nat → Int32) (mo : Nat → Nat) (n : Nat) : bkC M' S mo n = bkC M S mo n := by
  have ho : onM M' = onM M := funext fun s => by unfold onM; rw [h 76 _ (Or.inr (Or.inr rfl)), h1]
  funext x
  unfold bkC
  have ha : acB M' mo = acB M mo := funext fun p => by unfold acB; rw [ho, h 73 _ (Or.inl rfl)]
  rw [ha, ho]
  congr 1
  congr 1
  funext p
  rw [h 74 _ (Or.inr (Or.inl rfl))]
theorem bkC_mo {M : pmM} {S : Nat → Int32} {mo mo' : Nat → Nat} {n : Nat} (h : ∀ p, p < n → mo p = mo' p) : bkC M S mo n = bkC M S mo' n := by
  funext x
  unfold bkC
  split
  · exact ifN_congr n (fun p hp => by unfold acB; rw [h p hp])
  · exact ifN_congr n (fun p hp => by rw [h p hp])
def odL (X : pmM) (p i : Nat) : pmM := (fun a k => if a = 70 ∧ p ≤ k ∧ k < p + i then X.1 70 (k + 1) else X.1 a k, X.2)
theorem odL_0 (X : pmM) (p : Nat) : X = odL X p 0 := pm_ext fun a k => (if_neg (by omega)).symm
theorem odL_s {X : pmM} {p i : Nat} {v : Int32} (hv : v = X.1 70 (p + i + 1)) : (pm2 (odL X p i).1 70 (p + i) v, X.2) = odL X p (i + 1) := by
  refine pm_ext fun a k => ?_
  show (if a = 70 ∧ k = p + i then v else if a = 70 ∧ p ≤ k ∧ k < p + i then X.1 70 (k + 1) else X.1 a k) = if a = 70 ∧ p ≤ k ∧ k < p + (i + 1) then X.1 70 (k + 1) else X.1 a k
  by_cases h1 : a = 70 ∧ k = p + i
  · rw [if_pos h1, if_pos (show a = 70 ∧ p ≤ k ∧ k < p + (i + 1) by omega), hv, h1.2]
  · rw [if_neg h1]
    by_cases h2 : a = 70 ∧ p ≤ k ∧ k < p + i
    · rw [if_pos h2, if_pos (show a = 70 ∧ p ≤ k ∧ k < p + (i + 1) by omega)]
    · rw [if_neg h2, if_neg (show ¬ (a = 70 ∧ p ≤ k ∧ k < p + (i + 1)) by omega)]
theorem odL_no {X : pmM} {p i a k : Nat} (h : a ≠ 70) : (odL X p i).1 a k = X.1 a k := if_neg (fun q => h q.1)
theorem odL_70 {X : pmM} {p i k : Nat} : (odL X p i).1 70 k = if p ≤ k ∧ k < p + i then X.1 70 (k + 1) else X.1 70 k := by
  show (if 70 = 70 ∧ p ≤ k ∧ k < p + i then _ else _) = _
  by_cases h : p ≤ k ∧ k < p + i
  · rw [if_pos ⟨rfl, h⟩, if_pos h]
  · rw [if_neg (fun q => h q.2), if_neg h]
theorem MS.odL {M N : pmM} (h : MS M N) (p i : Nat) : MS (odL M p i) (odL N p i) := ⟨h.1, fun a j q => by
  show (if a = 70 ∧ p ≤ j ∧ j < p + i then N.1 70 (j + 1) else N.1 a j) = if a = 70 ∧ p ≤ j ∧ j < p + i then M.1 70 (j + 1) else M.1 a j
  rw [h.2 a j q, h.at (a := 70) (Or.inl (by decide))]⟩
/-- a rule leaves the model -/
def mxM (M : pmM) (s rc : Nat) : pmM := (pm2 (pm2 M.1 71 s (nI 0)) 64 8 (nI (rc - 1)), M.2)
def myM (M : pmM) (s rc p : Nat) : pmM := odL (mxM M s rc) p (rc - 1 - p)
def rvO (mo : Nat → Nat) (p k : Nat) : Nat := if p ≤ k then mo (k + 1) else mo k
theorem mxM_no {M : pmM} {s rc a k : Nat} (h : a ≠ 71) (h2 : a ≠ 64 ∨ k ≠ 8) : (mxM M s rc).1 a k = M.1 a k := by
  unfold mxM
  show pm2 _ _ _ _ _ _ = _
  rw [show ∀ f : Nat → Nat → Int32, pm2 f 64 8 (nI (rc - 1)) a k = f a k from fun f => if_neg (fun q => by omega), pm2_n h]
theorem myM_no {M : pmM} {s rc p a k : Nat} (h0 : a ≠ 70) (h : a ≠ 71) (h2 : a ≠ 64 ∨ k ≠ 8) : (myM M s rc p).1 a k = M.1 a k := (odL_no h0).trans (mxM_no h h2)
theorem m_removeRule_ok {l : Launch} (hf : l.stackTraces = false) {M N : pmM} (hN : MS M N) {od : Nat → Nat} (hmr : M.2.1 = mrC od) {oc rc : Nat} {rg mc : Nat → Nat} {lo hi mb : Nat → Nat → Nat} {mo : Nat → Nat} (hO : MO M oc rg mc lo hi mb) (hmc : M.1 64 8 = nI rc) (h8 : rc ≤ 8) (hmo : ∀ p, p < rc → M.1 70 p = nI (mo p) ∧ mo p < 8) (hfo : OBF M mo rc oc) {x : Int32} {p : Nat} (hp : p < rc) (hx : M.1 72 (mo p) = x) (hn : ∀ q, q < p → M.1 72 (mo q) ≠ x) : ∃ N', MS (myM M (mo p) rc p) N' ∧ N'.1 64 0 = nI 0 ∧ Sp l kX4_removeRule 86 3 0 0 [.ref 64, .int x] N (.inl (some (.int (nI (ulN (bkC M (ScF oc rg mc lo hi mb (-1) (nI 0)) mo rc) (bkC M (ScF oc rg mc lo hi mb (-1) (nI 0)) (rvO mo p) (rc - 1))))))) N' := by
  have hM0 := hN.cd 0
  have hrc : ∀ {P : pmM}, MS M P → P.1 64 8 = nI rc := fun h => (h.at (Or.inr ⟨rfl, by decide⟩)).trans hmc
  have hor : ∀ {P : pmM}, MS M P → ∀ p, p < rc → P.1 70 p = nI (mo p) := fun h p hp => (h.at (Or.inl (by decide))).trans (hmo p hp).1
  have hor2 : ∀ {P : pmM}, MS M P → ∀ p, p < rc → P.1 70 p = nI (mo p) ∧ mo p < 8 := fun h p hp => ⟨hor h p hp, (hmo p hp).2⟩
  have h72 : ∀ {P : pmM}, MS M P → ∀ s, P.1 72 s = M.1 72 s := fun h s => h.at (Or.inl (by decide))
  obtain ⟨N1, a1, a2, a3, a4, a5, a6⟩ := m_laysNow2 hf hM0 hmr hO hmc h8 hmo hfo
  have hs := (hmo p hp).2
  have t1 : MS (myM M (mo p) rc p) (myM N1 (mo p) rc p) := ((a1.put _ _ _).put _ _ _).odL _ _
  have e70 : ∀ k, k < rc - 1 → (myM N1 (mo p) rc p).1 70 k = nI (rvO mo p k) := fun k hk => by
    unfold myM rvO
    rw [odL_70]
    by_cases h : p ≤ k
    · rw [if_pos (show p ≤ k ∧ k < p + (rc - 1 - p) by omega), if_pos h, mxM_no (by decide) (Or.inl (by decide))]; exact hor a1 _ (by omega)
    · rw [if_neg (fun q => h q.1), if_neg h, mxM_no (by decide) (Or.inl (by decide))]; exact hor a1 _ (by omega)
  have hrv : ∀ k, k < rc - 1 → ∃ q, q < rc ∧ rvO mo p k = mo q := fun k hk => by
    unfold rvO
    split
    · exact ⟨k + 1, by omega, rfl⟩
    · exact ⟨k, by omega, rfl⟩
  obtain ⟨N3, c1, c2, c3, c4, c5, c6⟩ := m_lays2 (mo := rvO mo p) (n := rc - 1) (b := 1) (ln := 70) (oc := oc) (S := (ScF oc rg mc lo hi mb (-1) (nI 0))) hf t1 (show (myM M (mo p) rc p).2.1 = mrC od from hmr) ps_70 (by decide) (by decide) (by omega) (by decide) (fun k hk => ⟨e70 k hk, by obtain ⟨q, g1, g2⟩ := hrv k hk; rw [g2]; exact (hmo q g1).2⟩) hO.1 (fun o ho => (myM_no (by decide) (by decide) (Or.inl (by decide))).trans (a4 o ho)) (fun k f g1 g2 => by obtain ⟨q, g3, g4⟩ := hrv k g1; rw [g4, myM_no (by decide) (by decide) (Or.inl (by decide))]; exact hfo q f g3 g2)
  have hbk := bk2_of (N' := N3) (N := N1) a3 c3 (bkC_lt _ _ _ (by omega)) (fun k hk => (c4 k hk).trans (myM_no (by decide) (by decide) (Or.inl (by decide))))
  rw [bkC_1 (M := M) (fun a j h => myM_no (by omega) (by omega) (Or.inl (by omega))) (myM_no (by decide) (by decide) (Or.inr (by decide)))] at hbk
  refine ⟨N3, c1, c2.trans ((myM_no (by decide) (by decide) (Or.inr (by decide))).trans a2), ?_⟩
  refine sp_of hf (by decide +kernel) (Nat.le_of_ble_eq_true rfl) (by intro v hv; simp at hv; rcases hv with rfl | rfl <;> rfl) rfl ?_
  refine e_aload_0 dX4_removeRule_0 rfl ?_
  refine e_iconst (v := nI 0) dX4_removeRule_1 rfl ic_0 ?_
  refine e_putI dX4_removeRule_2 rfl lkX4_68 rfl rfl rfl ps_64 (by decide) (by decide) ?_
  refine e_aload_0 dX4_removeRule_5 rfl ?_
  refine e_iload_1 dX4_removeRule_6 rfl ?_
  refine e_callV dX4_removeRule_7 rfl csX4_82 (m_positionOf_ok hf (hM0.mr hmr) (hrc hM0) h8 (hor2 hM0) hp ((h72 hM0 _).trans hx) (fun q hq => by rw [h72 hM0]; exact hn q hq)) rfl rfl ps_64 (by decide) (by decide) ⟨Nat.le_of_ble_eq_true rfl, Nat.le_of_ble_eq_true rfl⟩ ⟨Nat.le_of_ble_eq_true rfl, Nat.le_of_ble_eq_true rfl⟩ rfl rfl (Nat.le_of_ble_eq_true rfl) ?_
  refine e_istore_2 dX4_removeRule_10 rfl (Nat.le_of_ble_eq_true rfl) rfl ?_
  refine e_iload_2 dX4_removeRule_11 rfl ?_
  refine e_iconst (v := -1) dX4_removeRule_12 rfl ic_m1 ?_
  refine e_ic_ne_t (tgt := 22) dX4_removeRule_13 (by decide) (nI_m1 (by omega)) ?_
  refine e_aload_0 dX4_removeRule_22 rfl ?_
  refine e_callV dX4_removeRule_23 rfl csX4_130 a6 rfl rfl ps_64 (by decide) (by decide) ⟨Nat.le_of_ble_eq_true rfl, Nat.le_of_ble_eq_true rfl⟩ ⟨Nat.le_of_ble_eq_true rfl, Nat.le_of_ble_eq_true rfl⟩ rfl rfl (Nat.le_of_ble_eq_true rfl) ?_
  refine e_pop dX4_removeRule_26 rfl rfl ?_
  refine e_aload_0 dX4_removeRule_27 rfl ?_
  refine e_getR dX4_removeRule_28 rfl lkX4_28 rfl ps_64 (by decide) (by decide) (mr_of (a1.mr hmr) rfl) ?_
  refine e_aload_0 dX4_removeRule_31 rfl ?_
  refine e_getR dX4_removeRule_32 rfl lkX4_25 rfl ps_64 (by decide) (by decide) (mr_of (a1.mr hmr) rfl) ?_
  refine e_iload_2 dX4_removeRule_35 rfl ?_
  refine e_iald dX4_removeRule_36 rfl ps_70 (by decide) rfl (by omega) ?_
  refine e_topi (nI (mo p)) (hor a1 p hp) ?_
  refine e_iconst (v := nI 0) dX4_removeRule_37 rfl ic_0 ?_
  refine e_zast dX4_removeRule_38 rfl ps_71 (by decide) rfl (by omega) rfl ?_
  refine e_aload_0 dX4_removeRule_39 rfl ?_
  refine e_dup dX4_removeRule_40 rfl rfl ?_
  refine e_getI dX4_removeRule_41 rfl lkX4_79 rfl ps_64 (by decide) (by decide) ?_
  refine e_topi (nI rc) (show pm2 N1.1 71 (mo p) (nI 0) 64 8 = nI rc from (pm2_n (by decide)).trans (hrc a1)) ?_
  refine e_iconst (v := nI 1) dX4_removeRule_44 rfl ic_1 ?_
  refine e_isub dX4_removeRule_45 rfl ?_
  refine e_topi (nI (rc - 1)) (pk_sub (by omega)) ?_
  refine e_putI dX4_removeRule_46 rfl lkX4_79 rfl rfl rfl ps_64 (by decide) (by decide) ?_
  refine e_iload_2 dX4_removeRule_49 rfl ?_
  refine e_istore_3 dX4_removeRule_50 rfl (Nat.le_of_ble_eq_true rfl) rfl ?_
  change Ev _ _ _ _ _ _ _ _ _ _ (mxM N1 (mo p) rc)
  have x8 : (mxM N1 (mo p) rc).1 64 8 = nI (rc - 1) := rfl
  have eX : myM N1 (mo p) rc p = odL (mxM N1 (mo p) rc) p (rc - 1 - p) := rfl
  rw [eX] at c6
  have xm : (mxM N1 (mo p) rc).2.1 = mrC od := a1.mr hmr
  generalize mxM N1 (mo p) rc = X at x8 c6 xm ⊢
  refine e_mem (odL_0 X p) ?_
  refine loop_up (P := fun i => Ev l kX4_removeRule (gM 86 0 0 (.inl (some (.int (nI (ulN (bkC M (ScF oc rg mc lo hi mb (-1) (nI 0)) mo rc) (bkC M (ScF oc rg mc lo hi mb (-1) (nI 0)) (rvO mo p) (rc - 1))))))) N3) (rmd 3 0 0) 86 0 0 51 [some (.ref 64), some (.int x), some (.int (nI p)), some (.int (nI (p + i)))] [] (odL X p i)) ?_ (fun i hi ih => ?_) 0 (Nat.zero_le (rc - 1 - p))
  · refine e_iload_3 dX4_removeRule_51 rfl ?_
    refine e_aload_0 dX4_removeRule_52 rfl ?_
    refine e_getI dX4_removeRule_53 rfl lkX4_79 rfl ps_64 (by decide) (by decide) ?_
    refine e_topi (nI (rc - 1)) ((odL_no (by decide)).trans x8) ?_
    refine e_nc_ge_t (tgt := 79) dX4_removeRule_56 (by decide) (by omega) (by omega) (by omega) ?_
    refine e_aload_0 dX4_removeRule_79 rfl ?_
    refine e_iconst (v := nI 1) dX4_removeRule_80 rfl ic_1 ?_
    refine e_aload_0 dX4_removeRule_81 rfl ?_
    refine e_getR dX4_removeRule_82 rfl lkX4_25 rfl ps_64 (by decide) (by decide) (mr_of xm rfl) ?_
    refine e_aload_0 dX4_removeRule_85 rfl ?_
    refine e_getI dX4_removeRule_86 rfl lkX4_79 rfl ps_64 (by decide) (by decide) ?_
    refine e_topi (nI (rc - 1)) ((odL_no (by decide)).trans x8) ?_
    refine e_callV dX4_removeRule_89 rfl csX4_119 c6 rfl rfl ps_64 (by decide) (by decide) ⟨Nat.le_of_ble_eq_true rfl, Nat.le_of_ble_eq_true rfl⟩ ⟨Nat.le_of_ble_eq_true rfl, Nat.le_of_ble_eq_true rfl⟩ rfl rfl (Nat.le_of_ble_eq_true rfl) ?_
    refine e_aload_0 dX4_removeRule_92 rfl ?_
    refine e_callV dX4_removeRule_93 rfl csX4_134 (m_unlike hf (show N3.2.1 = mrC od from c1.mr hmr) hbk) rfl rfl ps_64 (by decide) (by decide) ⟨Nat.le_of_ble_eq_true rfl, Nat.le_of_ble_eq_true rfl⟩ ⟨Nat.le_of_ble_eq_true rfl, Nat.le_of_ble_eq_true rfl⟩ rfl rfl (Nat.le_of_ble_eq_true rfl) ?_
    exact e_iret dX4_removeRule_96 rfl rfl (Nat.le_of_ble_eq_true rfl) (Nat.le_of_ble_eq_true rfl) rfl rfl
  · refine e_iload_3 dX4_removeRule_51 rfl ?_
    refine e_aload_0 dX4_removeRule_52 rfl ?_
    refine e_getI dX4_removeRule_53 rfl lkX4_79 rfl ps_64 (by decide) (by decide) ?_
    refine e_topi (nI (rc - 1)) ((odL_no (by decide)).trans x8) ?_
    refine e_nc_ge_f dX4_removeRule_56 rfl ⟨79, by decide⟩ (by omega) (by omega) (by omega) ?_
    refine e_aload_0 dX4_removeRule_59 rfl ?_
    refine e_getR dX4_removeRule_60 rfl lkX4_25 rfl ps_64 (by decide) (by decide) (mr_of xm rfl) ?_
    refine e_iload_3 dX4_removeRule_63 rfl ?_
    refine e_aload_0 dX4_removeRule_64 rfl ?_
    refine e_getR dX4_removeRule_65 rfl lkX4_25 rfl ps_64 (by decide) (by decide) (mr_of xm rfl) ?_
    refine e_iload_3 dX4_removeRule_68 rfl ?_
    refine e_iconst (v := nI 1) dX4_removeRule_69 rfl ic_1 ?_
    refine e_iadd dX4_removeRule_70 rfl ?_
    refine e_topi (nI (p + i + 1)) (nI_add _ _) ?_
    refine e_iald dX4_removeRule_71 rfl ps_70 (by decide) rfl (by omega) ?_
    refine e_iast dX4_removeRule_72 rfl ps_70 (by decide) rfl (by omega) ?_
    refine e_iinc_3 (v := nI (p + i + 1)) dX4_removeRule_73 rfl (Nat.le_of_ble_eq_true rfl) rfl (nI_1 (p + i)) ?_
    refine e_goto (tgt := 51) dX4_removeRule_76 (by decide) ?_
    exact e_mem (odL_s (by rw [odL_70, if_neg (by omega)])) ih
theorem m_removeRule_nr {l : Launch} (hf : l.stackTraces = false) {M N : pmM} (hN : MS M N) {od : Nat → Nat} (hmr : M.2.1 = mrC od) {oc rc : Nat} {rg mc : Nat → Nat} {lo hi mb : Nat → Nat → Nat} {mo : Nat → Nat} (hO : MO M oc rg mc lo hi mb) (hmc : M.1 64 8 = nI rc) (h8 : rc ≤ 8) (hmo : ∀ p, p < rc → M.1 70 p = nI (mo p) ∧ mo p < 8) (hfo : OBF M mo rc oc) {x : Int32} (hn : ∀ q, q < rc → M.1 72 (mo q) ≠ x) : ∃ N', MS M N' ∧ N'.1 64 0 = nI 1 ∧ Sp l kX4_removeRule 86 3 0 0 [.ref 64, .int x] N (.inl (some (.int (nI 0)))) N' := by
  have hM0 := hN.cd 0
  have hrc : ∀ {P : pmM}, MS M P → P.1 64 8 = nI rc := fun h => (h.at (Or.inr ⟨rfl, by decide⟩)).trans hmc
  have hor : ∀ {P : pmM}, MS M P → ∀ p, p < rc → P.1 70 p = nI (mo p) := fun h p hp => (h.at (Or.inl (by decide))).trans (hmo p hp).1
  have hor2 : ∀ {P : pmM}, MS M P → ∀ p, p < rc → P.1 70 p = nI (mo p) ∧ mo p < 8 := fun h p hp => ⟨hor h p hp, (hmo p hp).2⟩
  have h72 : ∀ {P : pmM}, MS M P → ∀ s, P.1 72 s = M.1 72 s := fun h s => h.at (Or.inl (by decide))
  refine ⟨cdM (cdM N 0) 1, hM0.cd 1, rfl, ?_⟩
  refine sp_of hf (by decide +kernel) (Nat.le_of_ble_eq_true rfl) (by intro v hv; simp at hv; rcases hv with rfl | rfl <;> rfl) rfl ?_
  refine e_aload_0 dX4_removeRule_0 rfl ?_
  refine e_iconst (v := nI 0) dX4_removeRule_1 rfl ic_0 ?_
  refine e_putI dX4_removeRule_2 rfl lkX4_68 rfl rfl rfl ps_64 (by decide) (by decide) ?_
  refine e_aload_0 dX4_removeRule_5 rfl ?_
  refine e_iload_1 dX4_removeRule_6 rfl ?_
  refine e_callV dX4_removeRule_7 rfl csX4_82 (m_positionOf_no hf (hM0.mr hmr) (hrc hM0) h8 (hor2 hM0) (fun q hq => by rw [h72 hM0]; exact hn q hq)) rfl rfl ps_64 (by decide) (by decide) ⟨Nat.le_of_ble_eq_true rfl, Nat.le_of_ble_eq_true rfl⟩ ⟨Nat.le_of_ble_eq_true rfl, Nat.le_of_ble_eq_true rfl⟩ rfl rfl (Nat.le_of_ble_eq_true rfl) ?_
  refine e_istore_2 dX4_removeRule_10 rfl (Nat.le_of_ble_eq_true rfl) rfl ?_
  refine e_iload_2 dX4_removeRule_11 rfl ?_
  refine e_iconst (v := -1) dX4_removeRule_12 rfl ic_m1 ?_
  refine e_ic_ne_f dX4_removeRule_13 rfl ⟨22, by decide⟩ rfl ?_
  refine e_aload_0 dX4_removeRule_16 rfl ?_
  refine e_iconst (v := nI 1) dX4_removeRule_17 rfl ic_1 ?_
  refine e_callV dX4_removeRule_18 rfl csX4_90 (m_fails (k := 1) hf (hM0.mr hmr)) rfl rfl ps_64 (by decide) (by decide) ⟨Nat.le_of_ble_eq_true rfl, Nat.le_of_ble_eq_true rfl⟩ ⟨Nat.le_of_ble_eq_true rfl, Nat.le_of_ble_eq_true rfl⟩ rfl rfl (Nat.le_of_ble_eq_true rfl) ?_
  exact e_iret dX4_removeRule_21 rfl rfl (Nat.le_of_ble_eq_true rfl) (Nat.le_of_ble_eq_true rfl) rfl rfl
def mdB (M : pmM) (S : Nat → Int32) (rc : Nat) (mo : Nat → Nat) (p : Nat) : Bool := decide (M.1 77 (mo p) < M.1 77 (mo (p + 1))) && decide (ulN (bkC M S mo rc) (bkC M S (shO mo p (p + 1)) rc) = 0)
def mpF (M : pmM) (S : Nat → Int32) (rc : Nat) (mo : Nat → Nat) : Nat → (Nat → Nat) × Nat
  | 0 => (mo, 0)
  | i + 1 => if mdB M S rc (mpF M S rc mo i).1 i = true then (shO (mpF M S rc mo i).1 i (i + 1), (mpF M S rc mo i).2 + 1) else ((mpF M S rc mo i).1, (mpF M S rc mo i).2)
def msoF (M : pmM) (S : Nat → Int32) (rc : Nat) : Nat → (Nat → Nat) → Nat → Option ((Nat → Nat) × Nat)
  | 0, _, _ => none
  | f + 1, mo, s => if (mpF M S rc mo (rc - 1)).2 = 0 then some ((mpF M S rc mo (rc - 1)).1, s) else msoF M S rc f (mpF M S rc mo (rc - 1)).1 (s + (mpF M S rc mo (rc - 1)).2)
def PV (M : pmM) (rc oc : Nat) (mo : Nat → Nat) : Prop := (∀ p, p < rc → mo p < 8) ∧ OBF M mo rc oc
theorem PV.sh {M : pmM} {rc oc : Nat} {mo : Nat → Nat} (h : PV M rc oc mo) {fr to : Nat} (h1 : fr < rc) (h2 : to < rc) : PV M rc oc (shO mo fr to) := by
  have hsh : ∀ k, k < rc → ∃ q, q < rc ∧ shO mo fr to k = mo q := fun k hk => by
    unfold shO
    repeat' split
    · exact ⟨fr, h1, rfl⟩
    · exact ⟨k + 1, by omega, rfl⟩
    · exact ⟨k - 1, by omega, rfl⟩
    · exact ⟨k, hk, rfl⟩
  exact ⟨fun p hp => by obtain ⟨q, a, b⟩ := hsh p hp; rw [b]; exact h.1 q a, fun p f hp hf => by obtain ⟨q, a, b⟩ := hsh p hp; rw [b]; exact h.2 q f a hf⟩
theorem mpF_PV {M : pmM} {S : Nat → Int32} {rc oc : Nat} {mo : Nat → Nat} (h : PV M rc oc mo) : ∀ i, i < rc → PV M rc oc (mpF M S rc mo i).1
  | 0, _ => h
  | i + 1, hi => by
    have ih := mpF_PV (S := S) h i (by omega)
    rw [mpF]
    split
    · exact ih.sh (by omega) (by omega)
    · exact ih
theorem mpF_cnt (M : pmM) (S : Nat → Int32) (rc : Nat) (mo : Nat → Nat) : ∀ i, (mpF M S rc mo i).2 ≤ i
  | 0 => Nat.le_refl 0
  | i + 1 => by
    have := mpF_cnt M S rc mo i
    rw [mpF]
    split
    · show (mpF M S rc mo i).2 + 1 ≤ i + 1; omega
    · show (mpF M S rc mo i).2 ≤ i + 1; omega
theorem orM_no {M : pmM} {mo : Nat → Nat} {n a k : Nat} (h : a ≠ 70) : (orM M mo n).1 a k = M.1 a k := if_neg (fun q => h q.1)
theorem orM_70 {M : pmM} {mo : Nat → Nat} {n k : Nat} (h : k < n) : (orM M mo n).1 70 k = nI (mo k) := if_pos ⟨rfl, h⟩
theorem orM_or (M : pmM) (mo mo' : Nat → Nat) (n : Nat) : orM (orM M mo n) mo' n = orM M mo' n := by
  refine pm_ext fun a k => ?_
  show (if a = 70 ∧ k < n then nI (mo' k) else if a = 70 ∧ k < n then nI (mo k) else M.1 a k) = if a = 70 ∧ k < n then nI (mo' k) else M.1 a k
  split <;> rfl
theorem orM_id {M : pmM} {mo : Nat → Nat} {n : Nat} (h : ∀ p, p < n → M.1 70 p = nI (mo p)) : M = orM M mo n := by
  refine pm_ext fun a k => ?_
  by_cases e : a = 70 ∧ k < n
  · rw [if_pos e, e.1, h k e.2]
  · rw [if_neg e]
theorem orM_MO {M : pmM} {mo : Nat → Nat} {n oc : Nat} {rg mc : Nat → Nat} {lo hi mb : Nat → Nat → Nat} (h : MO M oc rg mc lo hi mb) : MO (orM M mo n) oc rg mc lo hi mb := h.congr (orM_no (by decide)) (fun a k h1 h2 => orM_no (by omega))
theorem orM_bk (M : pmM) (mo' : Nat → Nat) (n' : Nat) (S : Nat → Int32) (mo : Nat → Nat) (n : Nat) : bkC (orM M mo' n') S mo n = bkC M S mo n := bkC_1 (fun a j h => orM_no (by omega)) (orM_no (by decide)) S mo n
theorem m_sort_pass {l : Launch} (hf : l.stackTraces = false) {M : pmM} {od : Nat → Nat} (hmr : M.2.1 = mrC od) {oc rc : Nat} {rg mc : Nat → Nat} {lo hi mb : Nat → Nat → Nat} (hO : MO M oc rg mc lo hi mb) (hmc : M.1 64 8 = nI rc) (h8 : rc ≤ 8) {mo : Nat → Nat} (hv : PV M rc oc mo) (hr0 : rc ≠ 0) {S : Nat → Int32} (hS : S = (ScF oc rg mc lo hi mb (-1) (nI 0))) : ∀ (k i : Nat), i + k = rc - 1 → ∀ N, MS (orM M (mpF M S rc mo i).1 rc) N → N.1 64 0 = nI 0 → ∃ N2, MS (orM M (mpF M S rc mo (rc - 1)).1 rc) N2 ∧ N2.1 64 0 = nI 0 ∧ ∀ (G : pmG) (al : Int32), Ev l kX4_sortByHits G (rmd 4 0 0) 86 0 0 78 [some (.ref 64), some (.int al), some (.int (nI (mpF M S rc mo (rc - 1)).2)), some (.int (nI (rc - 1)))] [] N2 → Ev l kX4_sortByHits G (rmd 4 0 0) 86 0 0 17 [some (.ref 64), some (.int al), some (.int (nI (mpF M S rc mo i).2)), some (.int (nI i))] [] N := by
  intro k
  induction k with
  | zero =>
    intro i hi N hN hc
    obtain rfl : i = rc - 1 := by omega
    refine ⟨N, hN, hc, fun G al kk => ?_⟩
    have hrc : N.1 64 8 = nI rc := (hN.at (Or.inr ⟨rfl, by decide⟩)).trans ((orM_no (by decide)).trans hmc)
    refine e_iload_3 dX4_sortByHits_17 rfl ?_
    refine e_iconst (v := nI 1) dX4_sortByHits_18 rfl ic_1 ?_
    refine e_iadd dX4_sortByHits_19 rfl ?_
    refine e_topi (nI (rc - 1 + 1)) (nI_add _ _) ?_
    refine e_aload_0 dX4_sortByHits_20 rfl ?_
    refine e_getI dX4_sortByHits_21 rfl lkX4_79 rfl ps_64 (by decide) (by decide) ?_
    refine e_topi (nI rc) hrc ?_
    refine e_nc_ge_t (tgt := 78) dX4_sortByHits_24 (by decide) (by omega) (by omega) (by omega) ?_
    exact kk
  | succ k ih =>
    intro i hi N hN hc
    have hvi := mpF_PV (S := S) hv i (by omega)
    have hst : mpF M S rc mo (i + 1) = if mdB M S rc (mpF M S rc mo i).1 i = true then (shO (mpF M S rc mo i).1 i (i + 1), (mpF M S rc mo i).2 + 1) else ((mpF M S rc mo i).1, (mpF M S rc mo i).2) := rfl
    have ih := ih (i + 1) (by omega)
    generalize (mpF M S rc mo i).2 = c at hst ⊢
    generalize (mpF M S rc mo i).1 = e at hst hvi hN
    have hrc : ∀ {P : pmM}, MS (orM M e rc) P → P.1 64 8 = nI rc := fun h => (h.at (Or.inr ⟨rfl, by decide⟩)).trans ((orM_no (by decide)).trans hmc)
    have hor : ∀ p, p < rc → N.1 70 p = nI (e p) := fun p hp => (hN.at (Or.inl (by decide))).trans (orM_70 hp)
    have h77 : ∀ s, N.1 77 s = M.1 77 s := fun s => (hN.at (Or.inl (by decide))).trans (orM_no (by decide))
    have s1 := hvi.1 i (by omega)
    have s2 := hvi.1 (i + 1) (by omega)
    by_cases q1 : M.1 77 (e i) < M.1 77 (e (i + 1))
    · obtain ⟨N1, a1, a2, a3, a4⟩ := m_byMove hf hN (show (orM M e rc).2.1 = mrC od from hmr) (orM_MO hO) ((orM_no (by decide)).trans hmc) h8 (fun p hp => ⟨orM_70 hp, hvi.1 p hp⟩) (fun p f hp hf3 => by rw [orM_no (by decide)]; exact hvi.2 p f hp hf3) (show i < rc by omega) (show i + 1 < rc by omega)
      rw [orM_bk, orM_bk, ← hS] at a4
      have hul : ulN (bkC M S e rc) (bkC M S (shO e i (i + 1)) rc) ≤ 32768 := cntN_le _ _
      by_cases q2 : ulN (bkC M S e rc) (bkC M S (shO e i (i + 1)) rc) = 0
      · rw [if_pos (show mdB M S rc e i = true by unfold mdB; rw [decide_eq_true q1, decide_eq_true q2]; rfl)] at hst
        rw [hst] at ih
        have t1 := tak_or a1 a3
        rw [orM_or] at t1
        obtain ⟨N2, b1, b2, b3⟩ := ih _ t1 (a2.trans hc)
        refine ⟨N2, b1, b2, fun G al kk => ?_⟩
        refine e_iload_3 dX4_sortByHits_17 rfl ?_
        refine e_iconst (v := nI 1) dX4_sortByHits_18 rfl ic_1 ?_
        refine e_iadd dX4_sortByHits_19 rfl ?_
        refine e_topi (nI (i + 1)) (nI_add _ _) ?_
        refine e_aload_0 dX4_sortByHits_20 rfl ?_
        refine e_getI dX4_sortByHits_21 rfl lkX4_79 rfl ps_64 (by decide) (by decide) ?_
        refine e_topi (nI rc) (hrc hN) ?_
        refine e_nc_ge_f dX4_sortByHits_24 rfl ⟨78, by decide⟩ (by omega) (by omega) (by omega) ?_
        refine e_aload_0 dX4_sortByHits_27 rfl ?_
        refine e_getR dX4_sortByHits_28 rfl lkX4_47 rfl ps_64 (by decide) (by decide) (mr_of (hN.mr hmr) rfl) ?_
        refine e_aload_0 dX4_sortByHits_31 rfl ?_
        refine e_getR dX4_sortByHits_32 rfl lkX4_25 rfl ps_64 (by decide) (by decide) (mr_of (hN.mr hmr) rfl) ?_
        refine e_iload_3 dX4_sortByHits_35 rfl ?_
        refine e_iconst (v := nI 1) dX4_sortByHits_36 rfl ic_1 ?_
        refine e_iadd dX4_sortByHits_37 rfl ?_
        refine e_topi (nI (i + 1)) (nI_add _ _) ?_
        refine e_iald dX4_sortByHits_38 rfl ps_70 (by decide) rfl (by omega) ?_
        refine e_topi (nI (e (i + 1))) (hor _ (by omega)) ?_
        refine e_iald dX4_sortByHits_39 rfl ps_77 (by decide) rfl (by omega) ?_
        refine e_topi (M.1 77 (e (i + 1))) (h77 _) ?_
        refine e_aload_0 dX4_sortByHits_40 rfl ?_
        refine e_getR dX4_sortByHits_41 rfl lkX4_47 rfl ps_64 (by decide) (by decide) (mr_of (hN.mr hmr) rfl) ?_
        refine e_aload_0 dX4_sortByHits_44 rfl ?_
        refine e_getR dX4_sortByHits_45 rfl lkX4_25 rfl ps_64 (by decide) (by decide) (mr_of (hN.mr hmr) rfl) ?_
        refine e_iload_3 dX4_sortByHits_48 rfl ?_
        refine e_iald dX4_sortByHits_49 rfl ps_70 (by decide) rfl (by omega) ?_
        refine e_topi (nI (e i)) (hor _ (by omega)) ?_
        refine e_iald dX4_sortByHits_50 rfl ps_77 (by decide) rfl (by omega) ?_
        refine e_topi (M.1 77 (e i)) (h77 _) ?_
        refine e_ic_le_f dX4_sortByHits_51 rfl ⟨72, by decide⟩ (Int32.not_le.mpr q1) ?_
        refine e_aload_0 dX4_sortByHits_54 rfl ?_
        refine e_iload_3 dX4_sortByHits_55 rfl ?_
        refine e_iload_3 dX4_sortByHits_56 rfl ?_
        refine e_iconst (v := nI 1) dX4_sortByHits_57 rfl ic_1 ?_
        refine e_iadd dX4_sortByHits_58 rfl ?_
        refine e_topi (nI (i + 1)) (nI_add _ _) ?_
        refine e_callV dX4_sortByHits_59 rfl csX4_152 a4 rfl rfl ps_64 (by decide) (by decide) ⟨Nat.le_of_ble_eq_true rfl, Nat.le_of_ble_eq_true rfl⟩ ⟨Nat.le_of_ble_eq_true rfl, Nat.le_of_ble_eq_true rfl⟩ rfl rfl (Nat.le_of_ble_eq_true rfl) ?_
        refine e_if_ne_f dX4_sortByHits_62 rfl ⟨72, by decide⟩ (show nI (ulN (bkC M S e rc) (bkC M S (shO e i (i + 1)) rc)) = 0 by rw [q2]; rfl) ?_
        refine e_aload_0 dX4_sortByHits_65 rfl ?_
        refine e_callV dX4_sortByHits_66 rfl csX4_155 (m_takes hf (show N1.2.1 = mrC od from a1.mr hmr) (hrc a1) h8) rfl rfl ps_64 (by decide) (by decide) ⟨Nat.le_of_ble_eq_true rfl, Nat.le_of_ble_eq_true rfl⟩ ⟨Nat.le_of_ble_eq_true rfl, Nat.le_of_ble_eq_true rfl⟩ rfl rfl (Nat.le_of_ble_eq_true rfl) ?_
        refine e_iinc_2 (v := nI (c + 1)) dX4_sortByHits_69 rfl (Nat.le_of_ble_eq_true rfl) rfl (nI_1 c) ?_
        refine e_iinc_3 (v := nI (i + 1)) dX4_sortByHits_72 rfl (Nat.le_of_ble_eq_true rfl) rfl (nI_1 i) ?_
        refine e_goto (tgt := 17) dX4_sortByHits_75 (by decide) ?_
        exact b3 G al kk
      · rw [if_neg (show ¬ mdB M S rc e i = true by unfold mdB; rw [decide_eq_false q2, Bool.and_false]; decide)] at hst
        rw [hst] at ih
        obtain ⟨N2, b1, b2, b3⟩ := ih _ a1 (a2.trans hc)
        refine ⟨N2, b1, b2, fun G al kk => ?_⟩
        refine e_iload_3 dX4_sortByHits_17 rfl ?_
        refine e_iconst (v := nI 1) dX4_sortByHits_18 rfl ic_1 ?_
        refine e_iadd dX4_sortByHits_19 rfl ?_
        refine e_topi (nI (i + 1)) (nI_add _ _) ?_
        refine e_aload_0 dX4_sortByHits_20 rfl ?_
        refine e_getI dX4_sortByHits_21 rfl lkX4_79 rfl ps_64 (by decide) (by decide) ?_
        refine e_topi (nI rc) (hrc hN) ?_
        refine e_nc_ge_f dX4_sortByHits_24 rfl ⟨78, by decide⟩ (by omega) (by omega) (by omega) ?_
        refine e_aload_0 dX4_sortByHits_27 rfl ?_
        refine e_getR dX4_sortByHits_28 rfl lkX4_47 rfl ps_64 (by decide) (by decide) (mr_of (hN.mr hmr) rfl) ?_
        refine e_aload_0 dX4_sortByHits_31 rfl ?_
        refine e_getR dX4_sortByHits_32 rfl lkX4_25 rfl ps_64 (by decide) (by decide) (mr_of (hN.mr hmr) rfl) ?_
        refine e_iload_3 dX4_sortByHits_35 rfl ?_
        refine e_iconst (v := nI 1) dX4_sortByHits_36 rfl ic_1 ?_
        refine e_iadd dX4_sortByHits_37 rfl ?_
        refine e_topi (nI (i + 1)) (nI_add _ _) ?_
        refine e_iald dX4_sortByHits_38 rfl ps_70 (by decide) rfl (by omega) ?_
        refine e_topi (nI (e (i + 1))) (hor _ (by omega)) ?_
        refine e_iald dX4_sortByHits_39 rfl ps_77 (by decide) rfl (by omega) ?_
        refine e_topi (M.1 77 (e (i + 1))) (h77 _) ?_
        refine e_aload_0 dX4_sortByHits_40 rfl ?_
        refine e_getR dX4_sortByHits_41 rfl lkX4_47 rfl ps_64 (by decide) (by decide) (mr_of (hN.mr hmr) rfl) ?_
        refine e_aload_0 dX4_sortByHits_44 rfl ?_
        refine e_getR dX4_sortByHits_45 rfl lkX4_25 rfl ps_64 (by decide) (by decide) (mr_of (hN.mr hmr) rfl) ?_
        refine e_iload_3 dX4_sortByHits_48 rfl ?_
        refine e_iald dX4_sortByHits_49 rfl ps_70 (by decide) rfl (by omega) ?_
        refine e_topi (nI (e i)) (hor _ (by omega)) ?_
        refine e_iald dX4_sortByHits_50 rfl ps_77 (by decide) rfl (by omega) ?_
        refine e_topi (M.1 77 (e i)) (h77 _) ?_
        refine e_ic_le_f dX4_sortByHits_51 rfl ⟨72, by decide⟩ (Int32.not_le.mpr q1) ?_
        refine e_aload_0 dX4_sortByHits_54 rfl ?_
        refine e_iload_3 dX4_sortByHits_55 rfl ?_
        refine e_iload_3 dX4_sortByHits_56 rfl ?_
        refine e_iconst (v := nI 1) dX4_sortByHits_57 rfl ic_1 ?_
        refine e_iadd dX4_sortByHits_58 rfl ?_
        refine e_topi (nI (i + 1)) (nI_add _ _) ?_
        refine e_callV dX4_sortByHits_59 rfl csX4_152 a4 rfl rfl ps_64 (by decide) (by decide) ⟨Nat.le_of_ble_eq_true rfl, Nat.le_of_ble_eq_true rfl⟩ ⟨Nat.le_of_ble_eq_true rfl, Nat.le_of_ble_eq_true rfl⟩ rfl rfl (Nat.le_of_ble_eq_true rfl) ?_
        refine e_if_ne_t (tgt := 72) dX4_sortByHits_62 (by decide) (show ¬ nI (ulN (bkC M S e rc) (bkC M S (shO e i (i + 1)) rc)) = 0 from nI_ne0 (Nat.pos_of_ne_zero q2) (by omega)) ?_
        refine e_iinc_3 (v := nI (i + 1)) dX4_sortByHits_72 rfl (Nat.le_of_ble_eq_true rfl) rfl (nI_1 i) ?_
        refine e_goto (tgt := 17) dX4_sortByHits_75 (by decide) ?_
        exact b3 G al kk
    · rw [if_neg (show ¬ mdB M S rc e i = true by unfold mdB; rw [decide_eq_false q1, Bool.false_and]; decide)] at hst
      rw [hst] at ih
      obtain ⟨N2, b1, b2, b3⟩ := ih _ hN hc
      refine ⟨N2, b1, b2, fun G al kk => ?_⟩
      refine e_iload_3 dX4_sortByHits_17 rfl ?_
      refine e_iconst (v := nI 1) dX4_sortByHits_18 rfl ic_1 ?_
      refine e_iadd dX4_sortByHits_19 rfl ?_
      refine e_topi (nI (i + 1)) (nI_add _ _) ?_
      refine e_aload_0 dX4_sortByHits_20 rfl ?_
      refine e_getI dX4_sortByHits_21 rfl lkX4_79 rfl ps_64 (by decide) (by decide) ?_
      refine e_topi (nI rc) (hrc hN) ?_
      refine e_nc_ge_f dX4_sortByHits_24 rfl ⟨78, by decide⟩ (by omega) (by omega) (by omega) ?_
      refine e_aload_0 dX4_sortByHits_27 rfl ?_
      refine e_getR dX4_sortByHits_28 rfl lkX4_47 rfl ps_64 (by decide) (by decide) (mr_of (hN.mr hmr) rfl) ?_
      refine e_aload_0 dX4_sortByHits_31 rfl ?_
      refine e_getR dX4_sortByHits_32 rfl lkX4_25 rfl ps_64 (by decide) (by decide) (mr_of (hN.mr hmr) rfl) ?_
      refine e_iload_3 dX4_sortByHits_35 rfl ?_
      refine e_iconst (v := nI 1) dX4_sortByHits_36 rfl ic_1 ?_
      refine e_iadd dX4_sortByHits_37 rfl ?_
      refine e_topi (nI (i + 1)) (nI_add _ _) ?_
      refine e_iald dX4_sortByHits_38 rfl ps_70 (by decide) rfl (by omega) ?_
      refine e_topi (nI (e (i + 1))) (hor _ (by omega)) ?_
      refine e_iald dX4_sortByHits_39 rfl ps_77 (by decide) rfl (by omega) ?_
      refine e_topi (M.1 77 (e (i + 1))) (h77 _) ?_
      refine e_aload_0 dX4_sortByHits_40 rfl ?_
      refine e_getR dX4_sortByHits_41 rfl lkX4_47 rfl ps_64 (by decide) (by decide) (mr_of (hN.mr hmr) rfl) ?_
      refine e_aload_0 dX4_sortByHits_44 rfl ?_
      refine e_getR dX4_sortByHits_45 rfl lkX4_25 rfl ps_64 (by decide) (by decide) (mr_of (hN.mr hmr) rfl) ?_
      refine e_iload_3 dX4_sortByHits_48 rfl ?_
      refine e_iald dX4_sortByHits_49 rfl ps_70 (by decide) rfl (by omega) ?_
      refine e_topi (nI (e i)) (hor _ (by omega)) ?_
      refine e_iald dX4_sortByHits_50 rfl ps_77 (by decide) rfl (by omega) ?_
      refine e_topi (M.1 77 (e i)) (h77 _) ?_
      refine e_ic_le_t (tgt := 72) dX4_sortByHits_51 (by decide) (Int32.not_lt.mp q1) ?_
      refine e_iinc_3 (v := nI (i + 1)) dX4_sortByHits_72 rfl (Nat.le_of_ble_eq_true rfl) rfl (nI_1 i) ?_
      refine e_goto (tgt := 17) dX4_sortByHits_75 (by decide) ?_
      exact b3 G al kk
theorem m_sort_all {l : Launch} (hf : l.stackTraces = false) {M : pmM} {od : Nat → Nat} (hmr : M.2.1 = mrC od) {oc rc : Nat} {rg mc : Nat → Nat} {lo hi mb : Nat → Nat → Nat} (hO : MO M oc rg mc lo hi mb) (hmc : M.1 64 8 = nI rc) (h8 : rc ≤ 8) {S : Nat → Int32} (hS : S = (ScF oc rg mc lo hi mb (-1) (nI 0))) {r : (Nat → Nat) × Nat} : ∀ (f : Nat) (mo : Nat → Nat) (s n : Nat), PV M rc oc mo → n ≠ 0 → n ≤ 8 → s ≤ 2000 * 8 → s + f * 8 ≤ 2000 * 8 → msoF M S rc f mo s = some r → ∀ N, MS (orM M mo rc) N → N.1 64 0 = nI 0 → ∃ N2, MS (orM M r.1 rc) N2 ∧ N2.1 64 0 = nI 0 ∧ Ev l kX4_sortByHits (gM 86 0 0 (.inl (some (.int (nI r.2)))) N2) (rmd 4 0 0) 86 0 0 9 [some (.ref 64), some (.int (nI s)), some (.int (nI n)), none] [] N := by
  intro f
  induction f with
  | zero => intro mo s n _ _ _ _ _ h; rw [msoF] at h; exact absurd h (by simp)
  | succ f ihf =>
    intro mo s n hv hn hn8 hs hsf h N hN hc
    have hcn := mpF_cnt M S rc mo (rc - 1)
    rw [msoF] at h
    by_cases hr0 : rc = 0
    · subst hr0
      rw [show (mpF M S 0 mo (0 - 1)) = (mo, 0) from rfl, if_pos rfl] at h
      obtain rfl : (mo, s) = r := Option.some.inj h
      refine ⟨N, hN, hc, ?_⟩
      have hrc : N.1 64 8 = nI 0 := (hN.at (Or.inr ⟨rfl, by decide⟩)).trans ((orM_no (by decide)).trans hmc)
      refine e_iload_2 dX4_sortByHits_9 rfl ?_
      refine e_if_le_f dX4_sortByHits_10 rfl ⟨85, by decide⟩ (nI_nle (Nat.pos_of_ne_zero hn) (by omega)) ?_
      refine e_iconst (v := nI 0) dX4_sortByHits_13 rfl ic_0 ?_
      refine e_istore_2 dX4_sortByHits_14 rfl (Nat.le_of_ble_eq_true rfl) rfl ?_
      refine e_iconst (v := nI 0) dX4_sortByHits_15 rfl ic_0 ?_
      refine e_istore_3 dX4_sortByHits_16 rfl (Nat.le_of_ble_eq_true rfl) rfl ?_
      refine e_iload_3 dX4_sortByHits_17 rfl ?_
      refine e_iconst (v := nI 1) dX4_sortByHits_18 rfl ic_1 ?_
      refine e_iadd dX4_sortByHits_19 rfl ?_
      refine e_topi (nI (0 + 1)) (nI_add _ _) ?_
      refine e_aload_0 dX4_sortByHits_20 rfl ?_
      refine e_getI dX4_sortByHits_21 rfl lkX4_79 rfl ps_64 (by decide) (by decide) ?_
      refine e_topi (nI 0) hrc ?_
      refine e_nc_ge_t (tgt := 78) dX4_sortByHits_24 (by decide) (by omega) (by omega) (by decide) ?_
      refine e_iload_1 dX4_sortByHits_78 rfl ?_
      refine e_iload_2 dX4_sortByHits_79 rfl ?_
      refine e_iadd dX4_sortByHits_80 rfl ?_
      refine e_topi (nI (s + 0)) (nI_add _ _) ?_
      refine e_istore_1 dX4_sortByHits_81 rfl (Nat.le_of_ble_eq_true rfl) rfl ?_
      refine e_goto (tgt := 9) dX4_sortByHits_82 (by decide) ?_
      refine e_iload_2 dX4_sortByHits_9 rfl ?_
      refine e_if_le_t (tgt := 85) dX4_sortByHits_10 (by decide) (by decide) ?_
      refine e_iload_1 dX4_sortByHits_85 rfl ?_
      exact e_iret dX4_sortByHits_86 rfl rfl (Nat.le_of_ble_eq_true rfl) (Nat.le_of_ble_eq_true rfl) rfl rfl
    · obtain ⟨N1, a1, a2, a3⟩ := m_sort_pass hf hmr hO hmc h8 hv hr0 hS (rc - 1) 0 (by omega) N hN hc
      have hv2 := mpF_PV (S := S) hv (rc - 1) (by omega)
      generalize (mpF M S rc mo (rc - 1)).2 = c at h hcn a3
      generalize (mpF M S rc mo (rc - 1)).1 = e at h hv2 a1
      by_cases hz : c = 0
      · subst hz
        rw [if_pos rfl] at h
        obtain rfl : (e, s) = r := Option.some.inj h
        refine ⟨N1, a1, a2, ?_⟩
        refine e_iload_2 dX4_sortByHits_9 rfl ?_
        refine e_if_le_f dX4_sortByHits_10 rfl ⟨85, by decide⟩ (nI_nle (Nat.pos_of_ne_zero hn) (by omega)) ?_
        refine e_iconst (v := nI 0) dX4_sortByHits_13 rfl ic_0 ?_
        refine e_istore_2 dX4_sortByHits_14 rfl (Nat.le_of_ble_eq_true rfl) rfl ?_
        refine e_iconst (v := nI 0) dX4_sortByHits_15 rfl ic_0 ?_
        refine e_istore_3 dX4_sortByHits_16 rfl (Nat.le_of_ble_eq_true rfl) rfl ?_
        refine a3 _ _ ?_
        refine e_iload_1 dX4_sortByHits_78 rfl ?_
        refine e_iload_2 dX4_sortByHits_79 rfl ?_
        refine e_iadd dX4_sortByHits_80 rfl ?_
        refine e_topi (nI (s + 0)) (nI_add _ _) ?_
        refine e_istore_1 dX4_sortByHits_81 rfl (Nat.le_of_ble_eq_true rfl) rfl ?_
        refine e_goto (tgt := 9) dX4_sortByHits_82 (by decide) ?_
        refine e_iload_2 dX4_sortByHits_9 rfl ?_
        refine e_if_le_t (tgt := 85) dX4_sortByHits_10 (by decide) (by decide) ?_
        refine e_iload_1 dX4_sortByHits_85 rfl ?_
        exact e_iret dX4_sortByHits_86 rfl rfl (Nat.le_of_ble_eq_true rfl) (Nat.le_of_ble_eq_true rfl) rfl rfl
      · rw [if_neg hz] at h
        obtain ⟨N2, b1, b2, b3⟩ := ihf e (s + c) c hv2 hz (by omega) (by omega) (by omega) h N1 a1 a2
        refine ⟨N2, b1, b2, ?_⟩
        refine e_iload_2 dX4_sortByHits_9 rfl ?_
        refine e_if_le_f dX4_sortByHits_10 rfl ⟨85, by decide⟩ (nI_nle (Nat.pos_of_ne_zero hn) (by omega)) ?_
        refine e_iconst (v := nI 0) dX4_sortByHits_13 rfl ic_0 ?_
        refine e_istore_2 dX4_sortByHits_14 rfl (Nat.le_of_ble_eq_true rfl) rfl ?_
        refine e_iconst (v := nI 0) dX4_sortByHits_15 rfl ic_0 ?_
        refine e_istore_3 dX4_sortByHits_16 rfl (Nat.le_of_ble_eq_true rfl) rfl ?_
        refine a3 _ _ ?_
        refine e_iload_1 dX4_sortByHits_78 rfl ?_
        refine e_iload_2 dX4_sortByHits_79 rfl ?_
        refine e_iadd dX4_sortByHits_80 rfl ?_
        refine e_topi (nI (s + c)) (nI_add _ _) ?_
        refine e_istore_1 dX4_sortByHits_81 rfl (Nat.le_of_ble_eq_true rfl) rfl ?_
        refine e_goto (tgt := 9) dX4_sortByHits_82 (by decide) ?_
        refine e_weak (weak_c (weak_c (weak_c (weak_n weak_nil)))) ?_
        exact b3
theorem m_sortByHits {l : Launch} (hf : l.stackTraces = false) {M : pmM} {od : Nat → Nat} (hmr : M.2.1 = mrC od) {oc rc : Nat} {rg mc : Nat → Nat} {lo hi mb : Nat → Nat → Nat} (hO : MO M oc rg mc lo hi mb) (hmc : M.1 64 8 = nI rc) (h8 : rc ≤ 8) {mo : Nat → Nat} (hmo : ∀ p, p < rc → M.1 70 p = nI (mo p) ∧ mo p < 8) (hfo : OBF M mo rc oc) {N : pmM} (hN : MS M N) {r : (Nat → Nat) × Nat} (hr : msoF M (ScF oc rg mc lo hi mb (-1) (nI 0)) rc 100 mo 0 = some r) : ∃ N', MS (orM M r.1 rc) N' ∧ N'.1 64 0 = nI 0 ∧ Sp l kX4_sortByHits 86 4 0 0 [.ref 64] N (.inl (some (.int (nI r.2)))) N' := by
  have hM0 : MS (orM M mo rc) (cdM N 0) := by rw [← orM_id (fun p hp => (hmo p hp).1)]; exact hN.cd 0
  obtain ⟨N2, b1, b2, b3⟩ := m_sort_all hf hmr hO hmc h8 rfl 100 mo 0 1 ⟨fun p hp => (hmo p hp).2, hfo⟩ (by decide) (by decide) (by decide) (by decide) hr _ hM0 rfl
  refine ⟨N2, b1, b2, ?_⟩
  refine sp_of hf (by decide +kernel) (Nat.le_of_ble_eq_true rfl) (by intro v hv; simp at hv; subst hv; rfl) rfl ?_
  refine e_aload_0 dX4_sortByHits_0 rfl ?_
  refine e_iconst (v := nI 0) dX4_sortByHits_1 rfl ic_0 ?_
  refine e_putI dX4_sortByHits_2 rfl lkX4_68 rfl rfl rfl ps_64 (by decide) (by decide) ?_
  refine e_iconst (v := nI 0) dX4_sortByHits_5 rfl ic_0 ?_
  refine e_istore_1 dX4_sortByHits_6 rfl (Nat.le_of_ble_eq_true rfl) rfl ?_
  refine e_iconst (v := nI 1) dX4_sortByHits_7 rfl ic_1 ?_
  refine e_istore_2 dX4_sortByHits_8 rfl (Nat.le_of_ble_eq_true rfl) rfl ?_
  exact b3
