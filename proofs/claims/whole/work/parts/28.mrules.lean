/-! ===== the model: the calls about rules ===== -/
def takM (M : pmM) (n : Nat) : pmM := (fun a k => if a = 70 ∧ k < n then M.1 83 k else M.1 a k, M.2)
def trM (M : pmM) (mo : Nat → Nat) (n : Nat) : pmM := (fun a k => if a = 83 ∧ k < n then nI (mo k) else M.1 a k, M.2)
theorem trM_s {M : pmM} {mo : Nat → Nat} {n : Nat} {v : Int32} (hv : v = nI (mo n)) : (pm2 (trM M mo n).1 83 n v, M.2) = trM M mo (n + 1) := by
  refine pm_ext fun a k => ?_
  show (if a = 83 ∧ k = n then v else if a = 83 ∧ k < n then nI (mo k) else M.1 a k) = if a = 83 ∧ k < n + 1 then nI (mo k) else M.1 a k
  by_cases h1 : a = 83 ∧ k = n
  · rw [if_pos h1, if_pos (show a = 83 ∧ k < n + 1 by omega), hv, h1.2]
  · rw [if_neg h1]
    by_cases h2 : a = 83 ∧ k < n
    · rw [if_pos h2, if_pos (show a = 83 ∧ k < n + 1 by omega)]
    · rw [if_neg h2, if_neg (show ¬ (a = 83 ∧ k < n + 1) by omega)]
theorem takM_s {M : pmM} {n : Nat} : (pm2 (takM M n).1 70 n (M.1 83 n), M.2) = takM M (n + 1) := by
  refine pm_ext fun a k => ?_
  show (if a = 70 ∧ k = n then M.1 83 n else if a = 70 ∧ k < n then M.1 83 k else M.1 a k) = if a = 70 ∧ k < n + 1 then M.1 83 k else M.1 a k
  by_cases h1 : a = 70 ∧ k = n
  · rw [if_pos h1, if_pos (show a = 70 ∧ k < n + 1 by omega), h1.2]
  · rw [if_neg h1]
    by_cases h2 : a = 70 ∧ k < n
    · rw [if_pos h2, if_pos (show a = 70 ∧ k < n + 1 by omega)]
    · rw [if_neg h2, if_neg (show ¬ (a = 70 ∧ k < n + 1) by omega)]
theorem inTD_n {td : Nat} {y : Int32} (htd9 : td ≤ 999) (h : ¬ (y = -1 ∨ ∃ d : Nat, td ≤ d ∧ d ≤ 999 ∧ y = nI d)) : ¬ (nI td ≤ y ∧ y ≤ nI 999) := fun ⟨q1, q2⟩ => by
  obtain ⟨j, hj, rfl⟩ := nI_of (show ¬ y < 0 from fun z => by
    have h1 := Int32.lt_of_le_of_lt q1 z
    exact nI_nlt (Nat.zero_le td) (by omega) h1)
  exact h (Or.inr ⟨j, (nI_leI (by omega) hj).mp q1, (nI_leI hj (by decide)).mp q2, rfl⟩)
theorem inOb_y {oc : Nat} {x : Int32} (h8 : oc ≤ 8) (h : obOk oc x) : (-1 : Int32) ≤ x ∧ x ≤ nI oc - nI 1 := by
  rcases h with rfl | ⟨o, ho, rfl⟩
  · exact ⟨Int32.le_refl _, (show ∀ n, n < 9 → (-1 : Int32) ≤ nI n - nI 1 by decide +kernel) oc (by omega)⟩
  · exact (show ∀ n, n < 9 → ∀ o, o < n → (-1 : Int32) ≤ nI o ∧ nI o ≤ nI n - nI 1 by decide +kernel) oc (by omega) o ho
theorem inOb_n {oc : Nat} {x : Int32} (h8 : oc ≤ 8) (h : ¬ obOk oc x) : ¬ ((-1 : Int32) ≤ x ∧ x ≤ nI oc - nI 1) := fun ⟨q1, q2⟩ => by
  by_cases h0 : x < 0
  · refine h (Or.inl ?_)
    have h1 : (-1 : Int32).toInt ≤ x.toInt := Int32.le_iff_toInt_le.mp q1
    have h2 : x.toInt < (0 : Int32).toInt := Int32.lt_iff_toInt_lt.mp h0
    have h3 : (-1 : Int32).toInt = -1 := by decide
    have h4 : (0 : Int32).toInt = 0 := by decide
    apply Int32.toInt_inj.mp
    omega
  · have := inE_n (x := x) (n := oc) (fun z => h (Or.inr (by obtain ⟨j, hj, e⟩ := vp_in_of z (by omega); exact ⟨j, hj, e⟩))) (by omega)
    exact this ⟨Int32.not_lt.mp h0, q2⟩
def meB (M : pmM) (mo : Nat → Nat) (ow d : Int32) (p : Nat) : Bool := decide (M.1 75 (mo p) = ow) && (!decide (M.1 76 (mo p) = -1) && (onM M (mo p) && decide (M.1 76 (mo p) < M.1 64 1 + d)))
def msdM (M : pmM) (s : Nat) (y : Int32) : pmM := (pm2 (cdM M 0).1 76 s y, M.2)
def mpaM (M : pmM) (t : Nat) : pmM := (pm2 (cdM M 0).1 64 1 (nI t), M.2)
/-- the new slot's rows -/
def nsM (M : pmM) (s : Nat) (nn acc a b c ow td : Int32) : pmM := (pm2 (pm2 (pm2 (pm2 (pm2 (pm2 (pm2 (pm2 (pm2 (pm2 (pm2 (pm2 (cdM M 0).1 71 s (nI 1)) 72 s nn) 73 s acc) 74 (3 * s) a) 74 (3 * s + 1) b) 74 (3 * s + 2) c) 75 s ow) 76 s (-1)) 77 s (nI 0)) 78 s td) 79 s (nI 0)) 80 s (-1), M.2)
theorem nsM_no {M : pmM} {s : Nat} {nn acc a b c ow td : Int32} {x k : Nat} (h : x < 71 ∨ 80 < x) (h2 : x ≠ 64 ∨ k ≠ 0) : (nsM M s nn acc a b c ow td).1 x k = M.1 x k := by
  unfold nsM
  show pm2 _ _ _ _ _ _ = _
  rw [pm2_n (by omega), pm2_n (by omega), pm2_n (by omega), pm2_n (by omega), pm2_n (by omega), pm2_n (by omega), pm2_n (by omega), pm2_n (by omega), pm2_n (by omega), pm2_n (by omega), pm2_n (by omega), pm2_n (by omega), cdM_no h2]
def osL (M : pmM) (rc i : Nat) : pmM := (fun a k => if a = 70 ∧ rc - i < k ∧ k ≤ rc then M.1 70 (k - 1) else M.1 a k, M.2)
theorem osL_0 (M : pmM) (rc : Nat) : M = osL M rc 0 := pm_ext fun a k => (if_neg (by omega)).symm
theorem osL_s {M : pmM} {rc i : Nat} (hi : i < rc) : (pm2 (osL M rc i).1 70 (rc - i) ((osL M rc i).1 70 (rc - i - 1)), M.2) = osL M rc (i + 1) := by
  have e : (osL M rc i).1 70 (rc - i - 1) = M.1 70 (rc - i - 1) := if_neg (by omega)
  rw [e]
  refine pm_ext fun a k => ?_
  show (if a = 70 ∧ k = rc - i then M.1 70 (rc - i - 1) else if a = 70 ∧ rc - i < k ∧ k ≤ rc then M.1 70 (k - 1) else M.1 a k) = if a = 70 ∧ rc - (i + 1) < k ∧ k ≤ rc then M.1 70 (k - 1) else M.1 a k
  by_cases h1 : a = 70 ∧ k = rc - i
  · rw [if_pos h1, if_pos (show a = 70 ∧ rc - (i + 1) < k ∧ k ≤ rc by omega), h1.2]
  · rw [if_neg h1]
    by_cases h2 : a = 70 ∧ rc - i < k ∧ k ≤ rc
    · rw [if_pos h2, if_pos (show a = 70 ∧ rc - (i + 1) < k ∧ k ≤ rc by omega)]
    · rw [if_neg h2, if_neg (show ¬ (a = 70 ∧ rc - (i + 1) < k ∧ k ≤ rc) by omega)]
theorem osL_no {M : pmM} {rc i a k : Nat} (h : a ≠ 70) : (osL M rc i).1 a k = M.1 a k := if_neg (fun q => h q.1)
/-- a rule more -/
def maM (N : pmM) (s rc p g : Nat) : pmM := (pm2 (pm2 (pm2 (osL N rc (rc - p)).1 70 p (nI s)) 64 8 (nI (rc + 1))) 64 9 (nI (g + 1)), N.2)
theorem m_takes {l : Launch} (hf : l.stackTraces = false) {M : pmM} {od : Nat → Nat} (hmr : M.2.1 = mrC od) {rc : Nat} (hmc : M.1 64 8 = nI rc) (h8 : rc ≤ 8) : Sp l kX4_takes 86 0 0 0 [.ref 64] M (.inl none) (takM M rc) := by
  refine sp_of hf (by decide +kernel) (Nat.le_of_ble_eq_true rfl) (by intro v hv; simp at hv; subst hv; rfl) rfl ?_
  refine e_mem (M1 := takM M 0) (pm_ext fun a k => (if_neg (by omega)).symm) ?_
  refine e_iconst (v := nI 0) dX4_takes_0 rfl ic_0 ?_
  refine e_istore_1 dX4_takes_1 rfl (Nat.le_of_ble_eq_true rfl) rfl ?_
  refine loop_up (P := fun i => Ev l kX4_takes (gM 86 0 0 (.inl none) (takM M rc)) (rmd 0 0 0) 86 0 0 2 [some (.ref 64), some (.int (nI i))] [] (takM M i)) ?_ (fun i hi ih => ?_) 0 (Nat.zero_le rc)
  · refine e_iload_1 dX4_takes_2 rfl ?_
    refine e_aload_0 dX4_takes_3 rfl ?_
    refine e_getI dX4_takes_4 rfl lkX4_79 rfl ps_64 (by decide) (by decide) ?_
    refine e_topi (nI rc) hmc ?_
    refine e_nc_ge_t (tgt := 28) dX4_takes_7 (by decide) (by omega) (by omega) (Nat.le_refl _) ?_
    exact e_vret dX4_takes_28 rfl (Nat.le_of_ble_eq_true rfl) (Nat.le_of_ble_eq_true rfl) rfl
  · refine e_iload_1 dX4_takes_2 rfl ?_
    refine e_aload_0 dX4_takes_3 rfl ?_
    refine e_getI dX4_takes_4 rfl lkX4_79 rfl ps_64 (by decide) (by decide) ?_
    refine e_topi (nI rc) hmc ?_
    refine e_nc_ge_f dX4_takes_7 rfl ⟨28, by decide⟩ (by omega) (by omega) hi ?_
    refine e_aload_0 dX4_takes_10 rfl ?_
    refine e_getR dX4_takes_11 rfl lkX4_25 rfl ps_64 (by decide) (by decide) (mr_of hmr rfl) ?_
    refine e_iload_1 dX4_takes_14 rfl ?_
    refine e_aload_0 dX4_takes_15 rfl ?_
    refine e_getR dX4_takes_16 rfl lkX4_65 rfl ps_64 (by decide) (by decide) (mr_of hmr rfl) ?_
    refine e_iload_1 dX4_takes_19 rfl ?_
    refine e_iald dX4_takes_20 rfl ps_83 (by decide) rfl (by omega) ?_
    refine e_topi (M.1 83 i) rfl ?_
    refine e_iast dX4_takes_21 rfl ps_70 (by decide) rfl (by omega) ?_
    refine e_iinc_1 (v := nI (i + 1)) dX4_takes_22 rfl (Nat.le_of_ble_eq_true rfl) rfl (nI_1 i) ?_
    refine e_goto (tgt := 2) dX4_takes_25 (by decide) ?_
    exact e_mem takM_s ih
theorem m_hits_ok {l : Launch} (hf : l.stackTraces = false) {M : pmM} {od : Nat → Nat} (hmr : M.2.1 = mrC od) {rc : Nat} (hmc : M.1 64 8 = nI rc) (h8 : rc ≤ 8) {mo : Nat → Nat} (hmo : ∀ p, p < rc → M.1 70 p = nI (mo p) ∧ mo p < 8) {x : Int32} {p : Nat} (hp : p < rc) (hx : M.1 72 (mo p) = x) (hn : ∀ q, q < p → M.1 72 (mo q) ≠ x) : Sp l kX4_hits 86 2 0 0 [.ref 64, .int x] M (.inl (some (.int (M.1 77 (mo p))))) (cdM M 0) := by
  refine sp_of hf (by decide +kernel) (Nat.le_of_ble_eq_true rfl) (by intro v hv; simp at hv; rcases hv with rfl | rfl <;> rfl) rfl ?_
  refine e_aload_0 dX4_hits_0 rfl ?_
  refine e_iload_1 dX4_hits_1 rfl ?_
  refine e_callV dX4_hits_2 rfl csX4_137 (m_slotOf_ok hf hmr hmc h8 hmo hp hx hn) rfl rfl ps_64 (by decide) (by decide) ⟨Nat.le_of_ble_eq_true rfl, Nat.le_of_ble_eq_true rfl⟩ ⟨Nat.le_of_ble_eq_true rfl, Nat.le_of_ble_eq_true rfl⟩ rfl rfl (Nat.le_of_ble_eq_true rfl) ?_
  refine e_istore_2 dX4_hits_5 rfl (Nat.le_of_ble_eq_true rfl) rfl ?_
  refine e_aload_0 dX4_hits_6 rfl ?_
  refine e_getI dX4_hits_7 rfl lkX4_68 rfl ps_64 (by decide) (by decide) ?_
  refine e_topi (nI 0) rfl ?_
  refine e_if_le_t (tgt := 17) dX4_hits_10 (by decide) (by decide) ?_
  refine e_aload_0 dX4_hits_17 rfl ?_
  refine e_getR dX4_hits_18 rfl lkX4_47 rfl ps_64 (by decide) (by decide) (mr_of hmr rfl) ?_
  refine e_iload_2 dX4_hits_21 rfl ?_
  refine e_iald dX4_hits_22 rfl ps_77 (by decide) rfl (hmo p hp).2 ?_
  exact e_iret dX4_hits_23 rfl rfl (Nat.le_of_ble_eq_true rfl) (Nat.le_of_ble_eq_true rfl) rfl rfl
theorem m_hits_nr {l : Launch} (hf : l.stackTraces = false) {M : pmM} {od : Nat → Nat} (hmr : M.2.1 = mrC od) {rc : Nat} (hmc : M.1 64 8 = nI rc) (h8 : rc ≤ 8) {mo : Nat → Nat} (hmo : ∀ p, p < rc → M.1 70 p = nI (mo p) ∧ mo p < 8) {x : Int32} (hn : ∀ q, q < rc → M.1 72 (mo q) ≠ x) : Sp l kX4_hits 86 2 0 0 [.ref 64, .int x] M (.inl (some (.int (nI 0)))) (cdM M 1) := by
  refine sp_of hf (by decide +kernel) (Nat.le_of_ble_eq_true rfl) (by intro v hv; simp at hv; rcases hv with rfl | rfl <;> rfl) rfl ?_
  refine e_aload_0 dX4_hits_0 rfl ?_
  refine e_iload_1 dX4_hits_1 rfl ?_
  refine e_callV dX4_hits_2 rfl csX4_137 (m_slotOf_no hf hmr hmc h8 hmo hn) rfl rfl ps_64 (by decide) (by decide) ⟨Nat.le_of_ble_eq_true rfl, Nat.le_of_ble_eq_true rfl⟩ ⟨Nat.le_of_ble_eq_true rfl, Nat.le_of_ble_eq_true rfl⟩ rfl rfl (Nat.le_of_ble_eq_true rfl) ?_
  refine e_istore_2 dX4_hits_5 rfl (Nat.le_of_ble_eq_true rfl) rfl ?_
  refine e_aload_0 dX4_hits_6 rfl ?_
  refine e_getI dX4_hits_7 rfl lkX4_68 rfl ps_64 (by decide) (by decide) ?_
  refine e_topi (nI 1) rfl ?_
  refine e_if_le_f dX4_hits_10 rfl ⟨17, by decide⟩ (by decide) ?_
  refine e_iconst (v := nI 0) dX4_hits_13 rfl ic_0 ?_
  refine e_goto (tgt := 23) dX4_hits_14 (by decide) ?_
  exact e_iret dX4_hits_23 rfl rfl (Nat.le_of_ble_eq_true rfl) (Nat.le_of_ble_eq_true rfl) rfl rfl
theorem m_busyDays_ok {l : Launch} (hf : l.stackTraces = false) {M : pmM} {od : Nat → Nat} (hmr : M.2.1 = mrC od) {rc : Nat} (hmc : M.1 64 8 = nI rc) (h8 : rc ≤ 8) {mo : Nat → Nat} (hmo : ∀ p, p < rc → M.1 70 p = nI (mo p) ∧ mo p < 8) {x : Int32} {p : Nat} (hp : p < rc) (hx : M.1 72 (mo p) = x) (hn : ∀ q, q < p → M.1 72 (mo q) ≠ x) : Sp l kX4_busyDays 86 2 0 0 [.ref 64, .int x] M (.inl (some (.int (M.1 79 (mo p))))) (cdM M 0) := by
  refine sp_of hf (by decide +kernel) (Nat.le_of_ble_eq_true rfl) (by intro v hv; simp at hv; rcases hv with rfl | rfl <;> rfl) rfl ?_
  refine e_aload_0 dX4_busyDays_0 rfl ?_
  refine e_iload_1 dX4_busyDays_1 rfl ?_
  refine e_callV dX4_busyDays_2 rfl csX4_137 (m_slotOf_ok hf hmr hmc h8 hmo hp hx hn) rfl rfl ps_64 (by decide) (by decide) ⟨Nat.le_of_ble_eq_true rfl, Nat.le_of_ble_eq_true rfl⟩ ⟨Nat.le_of_ble_eq_true rfl, Nat.le_of_ble_eq_true rfl⟩ rfl rfl (Nat.le_of_ble_eq_true rfl) ?_
  refine e_istore_2 dX4_busyDays_5 rfl (Nat.le_of_ble_eq_true rfl) rfl ?_
  refine e_aload_0 dX4_busyDays_6 rfl ?_
  refine e_getI dX4_busyDays_7 rfl lkX4_68 rfl ps_64 (by decide) (by decide) ?_
  refine e_topi (nI 0) rfl ?_
  refine e_if_le_t (tgt := 17) dX4_busyDays_10 (by decide) (by decide) ?_
  refine e_aload_0 dX4_busyDays_17 rfl ?_
  refine e_getR dX4_busyDays_18 rfl lkX4_53 rfl ps_64 (by decide) (by decide) (mr_of hmr rfl) ?_
  refine e_iload_2 dX4_busyDays_21 rfl ?_
  refine e_iald dX4_busyDays_22 rfl ps_79 (by decide) rfl (hmo p hp).2 ?_
  exact e_iret dX4_busyDays_23 rfl rfl (Nat.le_of_ble_eq_true rfl) (Nat.le_of_ble_eq_true rfl) rfl rfl
theorem m_busyDays_nr {l : Launch} (hf : l.stackTraces = false) {M : pmM} {od : Nat → Nat} (hmr : M.2.1 = mrC od) {rc : Nat} (hmc : M.1 64 8 = nI rc) (h8 : rc ≤ 8) {mo : Nat → Nat} (hmo : ∀ p, p < rc → M.1 70 p = nI (mo p) ∧ mo p < 8) {x : Int32} (hn : ∀ q, q < rc → M.1 72 (mo q) ≠ x) : Sp l kX4_busyDays 86 2 0 0 [.ref 64, .int x] M (.inl (some (.int (nI 0)))) (cdM M 1) := by
  refine sp_of hf (by decide +kernel) (Nat.le_of_ble_eq_true rfl) (by intro v hv; simp at hv; rcases hv with rfl | rfl <;> rfl) rfl ?_
  refine e_aload_0 dX4_busyDays_0 rfl ?_
  refine e_iload_1 dX4_busyDays_1 rfl ?_
  refine e_callV dX4_busyDays_2 rfl csX4_137 (m_slotOf_no hf hmr hmc h8 hmo hn) rfl rfl ps_64 (by decide) (by decide) ⟨Nat.le_of_ble_eq_true rfl, Nat.le_of_ble_eq_true rfl⟩ ⟨Nat.le_of_ble_eq_true rfl, Nat.le_of_ble_eq_true rfl⟩ rfl rfl (Nat.le_of_ble_eq_true rfl) ?_
  refine e_istore_2 dX4_busyDays_5 rfl (Nat.le_of_ble_eq_true rfl) rfl ?_
  refine e_aload_0 dX4_busyDays_6 rfl ?_
  refine e_getI dX4_busyDays_7 rfl lkX4_68 rfl ps_64 (by decide) (by decide) ?_
  refine e_topi (nI 1) rfl ?_
  refine e_if_le_f dX4_busyDays_10 rfl ⟨17, by decide⟩ (by decide) ?_
  refine e_iconst (v := nI 0) dX4_busyDays_13 rfl ic_0 ?_
  refine e_goto (tgt := 23) dX4_busyDays_14 (by decide) ?_
  exact e_iret dX4_busyDays_23 rfl rfl (Nat.le_of_ble_eq_true rfl) (Nat.le_of_ble_eq_true rfl) rfl rfl
theorem m_idleDays_ok {l : Launch} (hf : l.stackTraces = false) {M : pmM} {od : Nat → Nat} (hmr : M.2.1 = mrC od) {rc : Nat} (hmc : M.1 64 8 = nI rc) (h8 : rc ≤ 8) {mo : Nat → Nat} (hmo : ∀ p, p < rc → M.1 70 p = nI (mo p) ∧ mo p < 8) {x : Int32} {p : Nat} (hp : p < rc) (hx : M.1 72 (mo p) = x) (hn : ∀ q, q < p → M.1 72 (mo q) ≠ x) : Sp l kX4_idleDays 86 2 0 0 [.ref 64, .int x] M (.inl (some (.int (M.1 64 1 - M.1 78 (mo p))))) (cdM M 0) := by
  refine sp_of hf (by decide +kernel) (Nat.le_of_ble_eq_true rfl) (by intro v hv; simp at hv; rcases hv with rfl | rfl <;> rfl) rfl ?_
  refine e_aload_0 dX4_idleDays_0 rfl ?_
  refine e_iload_1 dX4_idleDays_1 rfl ?_
  refine e_callV dX4_idleDays_2 rfl csX4_137 (m_slotOf_ok hf hmr hmc h8 hmo hp hx hn) rfl rfl ps_64 (by decide) (by decide) ⟨Nat.le_of_ble_eq_true rfl, Nat.le_of_ble_eq_true rfl⟩ ⟨Nat.le_of_ble_eq_true rfl, Nat.le_of_ble_eq_true rfl⟩ rfl rfl (Nat.le_of_ble_eq_true rfl) ?_
  refine e_istore_2 dX4_idleDays_5 rfl (Nat.le_of_ble_eq_true rfl) rfl ?_
  refine e_aload_0 dX4_idleDays_6 rfl ?_
  refine e_getI dX4_idleDays_7 rfl lkX4_68 rfl ps_64 (by decide) (by decide) ?_
  refine e_topi (nI 0) rfl ?_
  refine e_if_le_t (tgt := 17) dX4_idleDays_10 (by decide) (by decide) ?_
  refine e_aload_0 dX4_idleDays_17 rfl ?_
  refine e_getI dX4_idleDays_18 rfl lkX4_110 rfl ps_64 (by decide) (by decide) ?_
  refine e_aload_0 dX4_idleDays_21 rfl ?_
  refine e_getR dX4_idleDays_22 rfl lkX4_50 rfl ps_64 (by decide) (by decide) (mr_of hmr rfl) ?_
  refine e_iload_2 dX4_idleDays_25 rfl ?_
  refine e_iald dX4_idleDays_26 rfl ps_78 (by decide) rfl (hmo p hp).2 ?_
  refine e_isub dX4_idleDays_27 rfl ?_
  exact e_iret dX4_idleDays_28 rfl rfl (Nat.le_of_ble_eq_true rfl) (Nat.le_of_ble_eq_true rfl) rfl rfl
theorem m_idleDays_nr {l : Launch} (hf : l.stackTraces = false) {M : pmM} {od : Nat → Nat} (hmr : M.2.1 = mrC od) {rc : Nat} (hmc : M.1 64 8 = nI rc) (h8 : rc ≤ 8) {mo : Nat → Nat} (hmo : ∀ p, p < rc → M.1 70 p = nI (mo p) ∧ mo p < 8) {x : Int32} (hn : ∀ q, q < rc → M.1 72 (mo q) ≠ x) : Sp l kX4_idleDays 86 2 0 0 [.ref 64, .int x] M (.inl (some (.int (nI 0)))) (cdM M 1) := by
  refine sp_of hf (by decide +kernel) (Nat.le_of_ble_eq_true rfl) (by intro v hv; simp at hv; rcases hv with rfl | rfl <;> rfl) rfl ?_
  refine e_aload_0 dX4_idleDays_0 rfl ?_
  refine e_iload_1 dX4_idleDays_1 rfl ?_
  refine e_callV dX4_idleDays_2 rfl csX4_137 (m_slotOf_no hf hmr hmc h8 hmo hn) rfl rfl ps_64 (by decide) (by decide) ⟨Nat.le_of_ble_eq_true rfl, Nat.le_of_ble_eq_true rfl⟩ ⟨Nat.le_of_ble_eq_true rfl, Nat.le_of_ble_eq_true rfl⟩ rfl rfl (Nat.le_of_ble_eq_true rfl) ?_
  refine e_istore_2 dX4_idleDays_5 rfl (Nat.le_of_ble_eq_true rfl) rfl ?_
  refine e_aload_0 dX4_idleDays_6 rfl ?_
  refine e_getI dX4_idleDays_7 rfl lkX4_68 rfl ps_64 (by decide) (by decide) ?_
  refine e_topi (nI 1) rfl ?_
  refine e_if_le_f dX4_idleDays_10 rfl ⟨17, by decide⟩ (by decide) ?_
  refine e_iconst (v := nI 0) dX4_idleDays_13 rfl ic_0 ?_
  refine e_goto (tgt := 28) dX4_idleDays_14 (by decide) ?_
  exact e_iret dX4_idleDays_28 rfl rfl (Nat.le_of_ble_eq_true rfl) (Nat.le_of_ble_eq_true rfl) rfl rfl
theorem m_isInForce_ok {l : Launch} (hf : l.stackTraces = false) {M : pmM} {od : Nat → Nat} (hmr : M.2.1 = mrC od) {rc : Nat} (hmc : M.1 64 8 = nI rc) (h8 : rc ≤ 8) {mo : Nat → Nat} (hmo : ∀ p, p < rc → M.1 70 p = nI (mo p) ∧ mo p < 8) {x : Int32} {p : Nat} (hp : p < rc) (hx : M.1 72 (mo p) = x) (hn : ∀ q, q < p → M.1 72 (mo q) ≠ x) : Sp l kX4_isInForce 86 2 0 0 [.ref 64, .int x] M (.inl (some (.int (bI (onM M (mo p)))))) (cdM M 0) := by
  refine sp_of hf (by decide +kernel) (Nat.le_of_ble_eq_true rfl) (by intro v hv; simp at hv; rcases hv with rfl | rfl <;> rfl) rfl ?_
  refine e_aload_0 dX4_isInForce_0 rfl ?_
  refine e_iload_1 dX4_isInForce_1 rfl ?_
  refine e_callV dX4_isInForce_2 rfl csX4_137 (m_slotOf_ok hf hmr hmc h8 hmo hp hx hn) rfl rfl ps_64 (by decide) (by decide) ⟨Nat.le_of_ble_eq_true rfl, Nat.le_of_ble_eq_true rfl⟩ ⟨Nat.le_of_ble_eq_true rfl, Nat.le_of_ble_eq_true rfl⟩ rfl rfl (Nat.le_of_ble_eq_true rfl) ?_
  refine e_istore_2 dX4_isInForce_5 rfl (Nat.le_of_ble_eq_true rfl) rfl ?_
  refine e_aload_0 dX4_isInForce_6 rfl ?_
  refine e_getI dX4_isInForce_7 rfl lkX4_68 rfl ps_64 (by decide) (by decide) ?_
  refine e_topi (nI 0) rfl ?_
  refine e_if_ne_f dX4_isInForce_10 rfl ⟨25, by decide⟩ (by decide) ?_
  refine e_aload_0 dX4_isInForce_13 rfl ?_
  refine e_iload_2 dX4_isInForce_14 rfl ?_
  refine e_callV dX4_isInForce_15 rfl csX4_113 (m_isOn (M := cdM M 0) hf hmr (hmo p hp).2) rfl rfl ps_64 (by decide) (by decide) ⟨Nat.le_of_ble_eq_true rfl, Nat.le_of_ble_eq_true rfl⟩ ⟨Nat.le_of_ble_eq_true rfl, Nat.le_of_ble_eq_true rfl⟩ rfl rfl (Nat.le_of_ble_eq_true rfl) ?_
  refine e_topi (bI (onM M (mo p))) rfl ?_
  cases hz : onM M (mo p) with
  | true =>
    refine e_if_eq_f dX4_isInForce_18 rfl ⟨25, by decide⟩ (by decide) ?_
    refine e_iconst (v := nI 1) dX4_isInForce_21 rfl ic_1 ?_
    refine e_goto (tgt := 26) dX4_isInForce_22 (by decide) ?_
    exact e_iret dX4_isInForce_26 rfl rfl (Nat.le_of_ble_eq_true rfl) (Nat.le_of_ble_eq_true rfl) rfl rfl
  | false =>
    refine e_if_eq_t (tgt := 25) dX4_isInForce_18 (by decide) rfl ?_
    refine e_iconst (v := nI 0) dX4_isInForce_25 rfl ic_0 ?_
    exact e_iret dX4_isInForce_26 rfl rfl (Nat.le_of_ble_eq_true rfl) (Nat.le_of_ble_eq_true rfl) rfl rfl
theorem m_isInForce_nr {l : Launch} (hf : l.stackTraces = false) {M : pmM} {od : Nat → Nat} (hmr : M.2.1 = mrC od) {rc : Nat} (hmc : M.1 64 8 = nI rc) (h8 : rc ≤ 8) {mo : Nat → Nat} (hmo : ∀ p, p < rc → M.1 70 p = nI (mo p) ∧ mo p < 8) {x : Int32} (hn : ∀ q, q < rc → M.1 72 (mo q) ≠ x) : Sp l kX4_isInForce 86 2 0 0 [.ref 64, .int x] M (.inl (some (.int (nI 0)))) (cdM M 1) := by
  refine sp_of hf (by decide +kernel) (Nat.le_of_ble_eq_true rfl) (by intro v hv; simp at hv; rcases hv with rfl | rfl <;> rfl) rfl ?_
  refine e_aload_0 dX4_isInForce_0 rfl ?_
  refine e_iload_1 dX4_isInForce_1 rfl ?_
  refine e_callV dX4_isInForce_2 rfl csX4_137 (m_slotOf_no hf hmr hmc h8 hmo hn) rfl rfl ps_64 (by decide) (by decide) ⟨Nat.le_of_ble_eq_true rfl, Nat.le_of_ble_eq_true rfl⟩ ⟨Nat.le_of_ble_eq_true rfl, Nat.le_of_ble_eq_true rfl⟩ rfl rfl (Nat.le_of_ble_eq_true rfl) ?_
  refine e_istore_2 dX4_isInForce_5 rfl (Nat.le_of_ble_eq_true rfl) rfl ?_
  refine e_aload_0 dX4_isInForce_6 rfl ?_
  refine e_getI dX4_isInForce_7 rfl lkX4_68 rfl ps_64 (by decide) (by decide) ?_
  refine e_topi (nI 1) rfl ?_
  refine e_if_ne_t (tgt := 25) dX4_isInForce_10 (by decide) (by decide) ?_
  refine e_iconst (v := nI 0) dX4_isInForce_25 rfl ic_0 ?_
  exact e_iret dX4_isInForce_26 rfl rfl (Nat.le_of_ble_eq_true rfl) (Nat.le_of_ble_eq_true rfl) rfl rfl
theorem m_setLastDay_ok {l : Launch} (hf : l.stackTraces = false) {M : pmM} {od : Nat → Nat} (hmr : M.2.1 = mrC od) {rc : Nat} (hmc : M.1 64 8 = nI rc) (h8 : rc ≤ 8) {mo : Nat → Nat} (hmo : ∀ p, p < rc → M.1 70 p = nI (mo p) ∧ mo p < 8) {x : Int32} {p : Nat} (hp : p < rc) (hx : M.1 72 (mo p) = x) (hn : ∀ q, q < p → M.1 72 (mo q) ≠ x) {td : Nat} (htd : M.1 64 1 = nI td) (htd9 : td ≤ 999) {y : Int32} (hy : y = -1 ∨ ∃ d : Nat, td ≤ d ∧ d ≤ 999 ∧ y = nI d) : Sp l kX4_setLastDay 86 2 0 0 [.ref 64, .int x, .int y] M (.inl (some (.int (M.1 76 (mo p))))) (msdM M (mo p) y) := by
  refine sp_of hf (by decide +kernel) (Nat.le_of_ble_eq_true rfl) (by intro v hv; simp at hv; rcases hv with rfl | rfl | rfl <;> rfl) rfl ?_
  have hs := (hmo p hp).2
  rcases hy with rfl | ⟨d, h1, h2, rfl⟩
  · refine e_aload_0 dX4_setLastDay_0 rfl ?_
    refine e_iload_1 dX4_setLastDay_1 rfl ?_
    refine e_callV dX4_setLastDay_2 rfl csX4_137 (m_slotOf_ok hf hmr hmc h8 hmo hp hx hn) rfl rfl ps_64 (by decide) (by decide) ⟨Nat.le_of_ble_eq_true rfl, Nat.le_of_ble_eq_true rfl⟩ ⟨Nat.le_of_ble_eq_true rfl, Nat.le_of_ble_eq_true rfl⟩ rfl rfl (Nat.le_of_ble_eq_true rfl) ?_
    refine e_istore_3 dX4_setLastDay_5 rfl (Nat.le_of_ble_eq_true rfl) rfl ?_
    refine e_aload_0 dX4_setLastDay_6 rfl ?_
    refine e_getI dX4_setLastDay_7 rfl lkX4_68 rfl ps_64 (by decide) (by decide) ?_
    refine e_topi (nI 0) rfl ?_
    refine e_if_le_t (tgt := 15) dX4_setLastDay_10 (by decide) (by decide) ?_
    refine e_iload_2 dX4_setLastDay_15 rfl ?_
    refine e_iconst (v := -1) dX4_setLastDay_16 rfl ic_m1 ?_
    refine e_ic_eq_t (tgt := 40) dX4_setLastDay_17 (by decide) rfl ?_
    refine e_aload_0 dX4_setLastDay_40 rfl ?_
    refine e_getR dX4_setLastDay_41 rfl lkX4_44 rfl ps_64 (by decide) (by decide) (mr_of hmr rfl) ?_
    refine e_iload_3 dX4_setLastDay_44 rfl ?_
    refine e_iald dX4_setLastDay_45 rfl ps_76 (by decide) rfl (by omega) ?_
    refine e_istore_4 dX4_setLastDay_46 rfl (Nat.le_of_ble_eq_true rfl) rfl ?_
    refine e_aload_0 dX4_setLastDay_48 rfl ?_
    refine e_getR dX4_setLastDay_49 rfl lkX4_44 rfl ps_64 (by decide) (by decide) (mr_of hmr rfl) ?_
    refine e_iload_3 dX4_setLastDay_52 rfl ?_
    refine e_iload_2 dX4_setLastDay_53 rfl ?_
    refine e_iast dX4_setLastDay_54 rfl ps_76 (by decide) rfl (by omega) ?_
    refine e_iload_4 dX4_setLastDay_55 rfl ?_
    exact e_iret dX4_setLastDay_57 rfl rfl (Nat.le_of_ble_eq_true rfl) (Nat.le_of_ble_eq_true rfl) rfl rfl
  · refine e_aload_0 dX4_setLastDay_0 rfl ?_
    refine e_iload_1 dX4_setLastDay_1 rfl ?_
    refine e_callV dX4_setLastDay_2 rfl csX4_137 (m_slotOf_ok hf hmr hmc h8 hmo hp hx hn) rfl rfl ps_64 (by decide) (by decide) ⟨Nat.le_of_ble_eq_true rfl, Nat.le_of_ble_eq_true rfl⟩ ⟨Nat.le_of_ble_eq_true rfl, Nat.le_of_ble_eq_true rfl⟩ rfl rfl (Nat.le_of_ble_eq_true rfl) ?_
    refine e_istore_3 dX4_setLastDay_5 rfl (Nat.le_of_ble_eq_true rfl) rfl ?_
    refine e_aload_0 dX4_setLastDay_6 rfl ?_
    refine e_getI dX4_setLastDay_7 rfl lkX4_68 rfl ps_64 (by decide) (by decide) ?_
    refine e_topi (nI 0) rfl ?_
    refine e_if_le_t (tgt := 15) dX4_setLastDay_10 (by decide) (by decide) ?_
    refine e_iload_2 dX4_setLastDay_15 rfl ?_
    refine e_iconst (v := -1) dX4_setLastDay_16 rfl ic_m1 ?_
    refine e_ic_eq_f dX4_setLastDay_17 rfl ⟨40, by decide⟩ (fun q => nI_pos (show d < 2 ^ 31 by omega) (by rw [q]; decide)) ?_
    refine e_iload_2 dX4_setLastDay_20 rfl ?_
    refine e_aload_0 dX4_setLastDay_21 rfl ?_
    refine e_getI dX4_setLastDay_22 rfl lkX4_110 rfl ps_64 (by decide) (by decide) ?_
    refine e_topi (nI td) htd ?_
    refine e_sipush (v := nI 999) dX4_setLastDay_25 rfl sc_999 ?_
    refine e_callS dX4_setLastDay_28 rfl csX4_75 (m_in_t (M := cdM M 0) hf (nI_le h1 (by omega)) (nI_le h2 (by decide))) rfl rfl ⟨Nat.le_of_ble_eq_true rfl, Nat.le_of_ble_eq_true rfl⟩ ⟨Nat.le_of_ble_eq_true rfl, Nat.le_of_ble_eq_true rfl⟩ rfl rfl (Nat.le_of_ble_eq_true rfl) ?_
    refine e_if_ne_t (tgt := 40) dX4_setLastDay_31 (by decide) (by decide) ?_
    refine e_aload_0 dX4_setLastDay_40 rfl ?_
    refine e_getR dX4_setLastDay_41 rfl lkX4_44 rfl ps_64 (by decide) (by decide) (mr_of hmr rfl) ?_
    refine e_iload_3 dX4_setLastDay_44 rfl ?_
    refine e_iald dX4_setLastDay_45 rfl ps_76 (by decide) rfl (by omega) ?_
    refine e_istore_4 dX4_setLastDay_46 rfl (Nat.le_of_ble_eq_true rfl) rfl ?_
    refine e_aload_0 dX4_setLastDay_48 rfl ?_
    refine e_getR dX4_setLastDay_49 rfl lkX4_44 rfl ps_64 (by decide) (by decide) (mr_of hmr rfl) ?_
    refine e_iload_3 dX4_setLastDay_52 rfl ?_
    refine e_iload_2 dX4_setLastDay_53 rfl ?_
    refine e_iast dX4_setLastDay_54 rfl ps_76 (by decide) rfl (by omega) ?_
    refine e_iload_4 dX4_setLastDay_55 rfl ?_
    exact e_iret dX4_setLastDay_57 rfl rfl (Nat.le_of_ble_eq_true rfl) (Nat.le_of_ble_eq_true rfl) rfl rfl
theorem m_setLastDay_no2 {l : Launch} (hf : l.stackTraces = false) {M : pmM} {od : Nat → Nat} (hmr : M.2.1 = mrC od) {rc : Nat} (hmc : M.1 64 8 = nI rc) (h8 : rc ≤ 8) {mo : Nat → Nat} (hmo : ∀ p, p < rc → M.1 70 p = nI (mo p) ∧ mo p < 8) {x : Int32} {p : Nat} (hp : p < rc) (hx : M.1 72 (mo p) = x) (hn : ∀ q, q < p → M.1 72 (mo q) ≠ x) {td : Nat} (htd : M.1 64 1 = nI td) (htd9 : td ≤ 999) {y : Int32} (hy : ¬ (y = -1 ∨ ∃ d : Nat, td ≤ d ∧ d ≤ 999 ∧ y = nI d)) : Sp l kX4_setLastDay 86 2 0 0 [.ref 64, .int x, .int y] M (.inl (some (.int (nI 0)))) (cdM (cdM M 0) 2) := by
  refine sp_of hf (by decide +kernel) (Nat.le_of_ble_eq_true rfl) (by intro v hv; simp at hv; rcases hv with rfl | rfl | rfl <;> rfl) rfl ?_
  refine e_aload_0 dX4_setLastDay_0 rfl ?_
  refine e_iload_1 dX4_setLastDay_1 rfl ?_
  refine e_callV dX4_setLastDay_2 rfl csX4_137 (m_slotOf_ok hf hmr hmc h8 hmo hp hx hn) rfl rfl ps_64 (by decide) (by decide) ⟨Nat.le_of_ble_eq_true rfl, Nat.le_of_ble_eq_true rfl⟩ ⟨Nat.le_of_ble_eq_true rfl, Nat.le_of_ble_eq_true rfl⟩ rfl rfl (Nat.le_of_ble_eq_true rfl) ?_
  refine e_istore_3 dX4_setLastDay_5 rfl (Nat.le_of_ble_eq_true rfl) rfl ?_
  refine e_aload_0 dX4_setLastDay_6 rfl ?_
  refine e_getI dX4_setLastDay_7 rfl lkX4_68 rfl ps_64 (by decide) (by decide) ?_
  refine e_topi (nI 0) rfl ?_
  refine e_if_le_t (tgt := 15) dX4_setLastDay_10 (by decide) (by decide) ?_
  refine e_iload_2 dX4_setLastDay_15 rfl ?_
  refine e_iconst (v := -1) dX4_setLastDay_16 rfl ic_m1 ?_
  refine e_ic_eq_f dX4_setLastDay_17 rfl ⟨40, by decide⟩ (fun q => hy (Or.inl q)) ?_
  refine e_iload_2 dX4_setLastDay_20 rfl ?_
  refine e_aload_0 dX4_setLastDay_21 rfl ?_
  refine e_getI dX4_setLastDay_22 rfl lkX4_110 rfl ps_64 (by decide) (by decide) ?_
  refine e_topi (nI td) htd ?_
  refine e_sipush (v := nI 999) dX4_setLastDay_25 rfl sc_999 ?_
  refine e_callS dX4_setLastDay_28 rfl csX4_75 (m_in_f (M := cdM M 0) hf (inTD_n htd9 hy)) rfl rfl ⟨Nat.le_of_ble_eq_true rfl, Nat.le_of_ble_eq_true rfl⟩ ⟨Nat.le_of_ble_eq_true rfl, Nat.le_of_ble_eq_true rfl⟩ rfl rfl (Nat.le_of_ble_eq_true rfl) ?_
  refine e_if_ne_f dX4_setLastDay_31 rfl ⟨40, by decide⟩ (by decide) ?_
  refine e_aload_0 dX4_setLastDay_34 rfl ?_
  refine e_iconst (v := nI 2) dX4_setLastDay_35 rfl ic_2 ?_
  refine e_callV dX4_setLastDay_36 rfl csX4_90 (m_fails (M := (cdM M 0)) (k := 2) hf hmr) rfl rfl ps_64 (by decide) (by decide) ⟨Nat.le_of_ble_eq_true rfl, Nat.le_of_ble_eq_true rfl⟩ ⟨Nat.le_of_ble_eq_true rfl, Nat.le_of_ble_eq_true rfl⟩ rfl rfl (Nat.le_of_ble_eq_true rfl) ?_
  exact e_iret dX4_setLastDay_39 rfl rfl (Nat.le_of_ble_eq_true rfl) (Nat.le_of_ble_eq_true rfl) rfl rfl
theorem m_setLastDay_nr {l : Launch} (hf : l.stackTraces = false) {M : pmM} {od : Nat → Nat} (hmr : M.2.1 = mrC od) {rc : Nat} (hmc : M.1 64 8 = nI rc) (h8 : rc ≤ 8) {mo : Nat → Nat} (hmo : ∀ p, p < rc → M.1 70 p = nI (mo p) ∧ mo p < 8) {x : Int32} (hn : ∀ q, q < rc → M.1 72 (mo q) ≠ x) {y : Int32} : Sp l kX4_setLastDay 86 2 0 0 [.ref 64, .int x, .int y] M (.inl (some (.int (nI 0)))) (cdM M 1) := by
  refine sp_of hf (by decide +kernel) (Nat.le_of_ble_eq_true rfl) (by intro v hv; simp at hv; rcases hv with rfl | rfl | rfl <;> rfl) rfl ?_
  refine e_aload_0 dX4_setLastDay_0 rfl ?_
  refine e_iload_1 dX4_setLastDay_1 rfl ?_
  refine e_callV dX4_setLastDay_2 rfl csX4_137 (m_slotOf_no hf hmr hmc h8 hmo hn) rfl rfl ps_64 (by decide) (by decide) ⟨Nat.le_of_ble_eq_true rfl, Nat.le_of_ble_eq_true rfl⟩ ⟨Nat.le_of_ble_eq_true rfl, Nat.le_of_ble_eq_true rfl⟩ rfl rfl (Nat.le_of_ble_eq_true rfl) ?_
  refine e_istore_3 dX4_setLastDay_5 rfl (Nat.le_of_ble_eq_true rfl) rfl ?_
  refine e_aload_0 dX4_setLastDay_6 rfl ?_
  refine e_getI dX4_setLastDay_7 rfl lkX4_68 rfl ps_64 (by decide) (by decide) ?_
  refine e_topi (nI 1) rfl ?_
  refine e_if_le_f dX4_setLastDay_10 rfl ⟨15, by decide⟩ (by decide) ?_
  refine e_iconst (v := nI 0) dX4_setLastDay_13 rfl ic_0 ?_
  exact e_iret dX4_setLastDay_14 rfl rfl (Nat.le_of_ble_eq_true rfl) (Nat.le_of_ble_eq_true rfl) rfl rfl
theorem m_rules {l : Launch} (hf : l.stackTraces = false) {M : pmM} {od : Nat → Nat} (hmr : M.2.1 = mrC od) {rc : Nat} (hmc : M.1 64 8 = nI rc) (h8 : rc ≤ 8) : Sp l kX4_rules 86 0 0 0 [.ref 64] M (.inl (some (.int (nI rc)))) (cdM M 0) := by
  refine sp_of hf (by decide +kernel) (Nat.le_of_ble_eq_true rfl) (by intro v hv; simp at hv; subst hv; rfl) rfl ?_
  refine e_aload_0 dX4_rules_0 rfl ?_
  refine e_iconst (v := nI 0) dX4_rules_1 rfl ic_0 ?_
  refine e_putI dX4_rules_2 rfl lkX4_68 rfl rfl rfl ps_64 (by decide) (by decide) ?_
  refine e_aload_0 dX4_rules_5 rfl ?_
  refine e_getI dX4_rules_6 rfl lkX4_79 rfl ps_64 (by decide) (by decide) ?_
  refine e_topi (nI rc) hmc ?_
  exact e_iret dX4_rules_9 rfl rfl (Nat.le_of_ble_eq_true rfl) (Nat.le_of_ble_eq_true rfl) rfl rfl
theorem m_day {l : Launch} (hf : l.stackTraces = false) {M : pmM} {od : Nat → Nat} (hmr : M.2.1 = mrC od) {td : Nat} (htd : M.1 64 1 = nI td) (htd9 : td ≤ 999) : Sp l kX4_day 86 0 0 0 [.ref 64] M (.inl (some (.int (nI td)))) (cdM M 0) := by
  refine sp_of hf (by decide +kernel) (Nat.le_of_ble_eq_true rfl) (by intro v hv; simp at hv; subst hv; rfl) rfl ?_
  refine e_aload_0 dX4_day_0 rfl ?_
  refine e_iconst (v := nI 0) dX4_day_1 rfl ic_0 ?_
  refine e_putI dX4_day_2 rfl lkX4_68 rfl rfl rfl ps_64 (by decide) (by decide) ?_
  refine e_aload_0 dX4_day_5 rfl ?_
  refine e_getI dX4_day_6 rfl lkX4_110 rfl ps_64 (by decide) (by decide) ?_
  refine e_topi (nI td) htd ?_
  exact e_iret dX4_day_9 rfl rfl (Nat.le_of_ble_eq_true rfl) (Nat.le_of_ble_eq_true rfl) rfl rfl
theorem m_ruleAt_ok {l : Launch} (hf : l.stackTraces = false) {M : pmM} {od : Nat → Nat} (hmr : M.2.1 = mrC od) {rc : Nat} (hmc : M.1 64 8 = nI rc) (h8 : rc ≤ 8) {mo : Nat → Nat} (hmo : ∀ p, p < rc → M.1 70 p = nI (mo p) ∧ mo p < 8) {p : Nat} (hp : p < rc) : Sp l kX4_ruleAt 86 2 0 0 [.ref 64, .int (nI p)] M (.inl (some (.int (M.1 72 (mo p))))) (cdM M 0) := by
  refine sp_of hf (by decide +kernel) (Nat.le_of_ble_eq_true rfl) (by intro v hv; simp at hv; rcases hv with rfl | rfl <;> rfl) rfl ?_
  have hs := (hmo p hp).2
  refine e_aload_0 dX4_ruleAt_0 rfl ?_
  refine e_iconst (v := nI 0) dX4_ruleAt_1 rfl ic_0 ?_
  refine e_putI dX4_ruleAt_2 rfl lkX4_68 rfl rfl rfl ps_64 (by decide) (by decide) ?_
  refine e_iload_1 dX4_ruleAt_5 rfl ?_
  refine e_iconst (v := nI 0) dX4_ruleAt_6 rfl ic_0 ?_
  refine e_aload_0 dX4_ruleAt_7 rfl ?_
  refine e_getI dX4_ruleAt_8 rfl lkX4_79 rfl ps_64 (by decide) (by decide) ?_
  refine e_topi (nI rc) hmc ?_
  refine e_iconst (v := nI 1) dX4_ruleAt_11 rfl ic_1 ?_
  refine e_isub dX4_ruleAt_12 rfl ?_
  refine e_topi (nI (rc - 1)) (pk_sub (by omega)) ?_
  refine e_callS dX4_ruleAt_13 rfl csX4_75 (m_in_t (M := cdM M 0) hf (nI_le (Nat.zero_le p) (by omega)) (nI_le (show p ≤ rc - 1 by omega) (by omega))) rfl rfl ⟨Nat.le_of_ble_eq_true rfl, Nat.le_of_ble_eq_true rfl⟩ ⟨Nat.le_of_ble_eq_true rfl, Nat.le_of_ble_eq_true rfl⟩ rfl rfl (Nat.le_of_ble_eq_true rfl) ?_
  refine e_if_eq_f dX4_ruleAt_16 rfl ⟨33, by decide⟩ (by decide) ?_
  refine e_aload_0 dX4_ruleAt_19 rfl ?_
  refine e_getR dX4_ruleAt_20 rfl lkX4_32 rfl ps_64 (by decide) (by decide) (mr_of hmr rfl) ?_
  refine e_aload_0 dX4_ruleAt_23 rfl ?_
  refine e_getR dX4_ruleAt_24 rfl lkX4_25 rfl ps_64 (by decide) (by decide) (mr_of hmr rfl) ?_
  refine e_iload_1 dX4_ruleAt_27 rfl ?_
  refine e_iald dX4_ruleAt_28 rfl ps_70 (by decide) rfl (by omega) ?_
  refine e_topi (nI (mo p)) (hmo p hp).1 ?_
  refine e_iald dX4_ruleAt_29 rfl ps_72 (by decide) rfl (by omega) ?_
  refine e_goto (tgt := 38) dX4_ruleAt_30 (by decide) ?_
  exact e_iret dX4_ruleAt_38 rfl rfl (Nat.le_of_ble_eq_true rfl) (Nat.le_of_ble_eq_true rfl) rfl rfl
theorem m_ruleAt_no {l : Launch} (hf : l.stackTraces = false) {M : pmM} {od : Nat → Nat} (hmr : M.2.1 = mrC od) {rc : Nat} (hmc : M.1 64 8 = nI rc) (h8 : rc ≤ 8) {x : Int32} (hx : ¬ vp_in x rc) : Sp l kX4_ruleAt 86 2 0 0 [.ref 64, .int x] M (.inl (some (.int (nI 0)))) (cdM (cdM M 0) 1) := by
  refine sp_of hf (by decide +kernel) (Nat.le_of_ble_eq_true rfl) (by intro v hv; simp at hv; rcases hv with rfl | rfl <;> rfl) rfl ?_
  refine e_aload_0 dX4_ruleAt_0 rfl ?_
  refine e_iconst (v := nI 0) dX4_ruleAt_1 rfl ic_0 ?_
  refine e_putI dX4_ruleAt_2 rfl lkX4_68 rfl rfl rfl ps_64 (by decide) (by decide) ?_
  refine e_iload_1 dX4_ruleAt_5 rfl ?_
  refine e_iconst (v := nI 0) dX4_ruleAt_6 rfl ic_0 ?_
  refine e_aload_0 dX4_ruleAt_7 rfl ?_
  refine e_getI dX4_ruleAt_8 rfl lkX4_79 rfl ps_64 (by decide) (by decide) ?_
  refine e_topi (nI rc) hmc ?_
  refine e_iconst (v := nI 1) dX4_ruleAt_11 rfl ic_1 ?_
  refine e_isub dX4_ruleAt_12 rfl ?_
  refine e_callS dX4_ruleAt_13 rfl csX4_75 (m_in_f (M := cdM M 0) hf (inE_n hx (by omega))) rfl rfl ⟨Nat.le_of_ble_eq_true rfl, Nat.le_of_ble_eq_true rfl⟩ ⟨Nat.le_of_ble_eq_true rfl, Nat.le_of_ble_eq_true rfl⟩ rfl rfl (Nat.le_of_ble_eq_true rfl) ?_
  refine e_if_eq_t (tgt := 33) dX4_ruleAt_16 (by decide) (by decide) ?_
  refine e_aload_0 dX4_ruleAt_33 rfl ?_
  refine e_iconst (v := nI 1) dX4_ruleAt_34 rfl ic_1 ?_
  refine e_callV dX4_ruleAt_35 rfl csX4_90 (m_fails (M := (cdM M 0)) (k := 1) hf hmr) rfl rfl ps_64 (by decide) (by decide) ⟨Nat.le_of_ble_eq_true rfl, Nat.le_of_ble_eq_true rfl⟩ ⟨Nat.le_of_ble_eq_true rfl, Nat.le_of_ble_eq_true rfl⟩ rfl rfl (Nat.le_of_ble_eq_true rfl) ?_
  exact e_iret dX4_ruleAt_38 rfl rfl (Nat.le_of_ble_eq_true rfl) (Nat.le_of_ble_eq_true rfl) rfl rfl
theorem m_expiring_ok {l : Launch} (hf : l.stackTraces = false) {M : pmM} {od : Nat → Nat} (hmr : M.2.1 = mrC od) {rc : Nat} (hmc : M.1 64 8 = nI rc) (h8 : rc ≤ 8) {mo : Nat → Nat} (hmo : ∀ p, p < rc → M.1 70 p = nI (mo p) ∧ mo p < 8) {ow : Nat} (how : ow < 6) {d : Nat} (hd1 : 1 ≤ d) (hd2 : d ≤ 99) : Sp l kX4_expiring 86 2 0 0 [.ref 64, .int (nI ow), .int (nI d)] M (.inl (some (.int (nI (cntN (meB M mo (nI ow) (nI d)) rc))))) (cdM M 0) := by
  refine sp_of hf (by decide +kernel) (Nat.le_of_ble_eq_true rfl) (by intro v hv; simp at hv; rcases hv with rfl | rfl | rfl <;> rfl) rfl ?_
  refine e_aload_0 dX4_expiring_0 rfl ?_
  refine e_iconst (v := nI 0) dX4_expiring_1 rfl ic_0 ?_
  refine e_putI dX4_expiring_2 rfl lkX4_68 rfl rfl rfl ps_64 (by decide) (by decide) ?_
  refine e_iload_1 dX4_expiring_5 rfl ?_
  refine e_iconst (v := nI 0) dX4_expiring_6 rfl ic_0 ?_
  refine e_iconst (v := nI 5) dX4_expiring_7 rfl ic_5 ?_
  refine e_callS dX4_expiring_8 rfl csX4_75 (m_in_t (M := cdM M 0) hf (nI_le (Nat.zero_le ow) (by omega)) (nI_le (show ow ≤ 5 by omega) (by decide))) rfl rfl ⟨Nat.le_of_ble_eq_true rfl, Nat.le_of_ble_eq_true rfl⟩ ⟨Nat.le_of_ble_eq_true rfl, Nat.le_of_ble_eq_true rfl⟩ rfl rfl (Nat.le_of_ble_eq_true rfl) ?_
  refine e_if_eq_f dX4_expiring_11 rfl ⟨24, by decide⟩ (by decide) ?_
  refine e_iload_2 dX4_expiring_14 rfl ?_
  refine e_iconst (v := nI 1) dX4_expiring_15 rfl ic_1 ?_
  refine e_bipush (v := nI 99) dX4_expiring_16 rfl bc_99 ?_
  refine e_callS dX4_expiring_18 rfl csX4_75 (m_in_t (M := cdM M 0) hf (nI_le hd1 (by omega)) (nI_le hd2 (by decide))) rfl rfl ⟨Nat.le_of_ble_eq_true rfl, Nat.le_of_ble_eq_true rfl⟩ ⟨Nat.le_of_ble_eq_true rfl, Nat.le_of_ble_eq_true rfl⟩ rfl rfl (Nat.le_of_ble_eq_true rfl) ?_
  refine e_if_ne_t (tgt := 30) dX4_expiring_21 (by decide) (by decide) ?_
  refine e_iconst (v := nI 0) dX4_expiring_30 rfl ic_0 ?_
  refine e_istore_3 dX4_expiring_31 rfl (Nat.le_of_ble_eq_true rfl) rfl ?_
  refine e_iconst (v := nI 0) dX4_expiring_32 rfl ic_0 ?_
  refine e_istore_4 dX4_expiring_33 rfl (Nat.le_of_ble_eq_true rfl) rfl ?_
  refine loop_up (P := fun p => Ev l kX4_expiring (gM 86 0 0 (.inl (some (.int (nI (cntN (meB M mo (nI ow) (nI d)) rc))))) (cdM M 0)) (rmd 2 0 0) 86 0 0 35 [some (.ref 64), some (.int (nI ow)), some (.int (nI d)), some (.int (nI (cntN (meB M mo (nI ow) (nI d)) p))), some (.int (nI p)), none] [] (cdM M 0)) ?_ (fun p hp ih => ?_) 0 (Nat.zero_le rc)
  · refine e_iload_4 dX4_expiring_35 rfl ?_
    refine e_aload_0 dX4_expiring_37 rfl ?_
    refine e_getI dX4_expiring_38 rfl lkX4_79 rfl ps_64 (by decide) (by decide) ?_
    refine e_topi (nI rc) hmc ?_
    refine e_nc_ge_t (tgt := 114) dX4_expiring_41 (by decide) (by omega) (by omega) (Nat.le_refl _) ?_
    refine e_iload_3 dX4_expiring_114 rfl ?_
    exact e_iret dX4_expiring_115 rfl rfl (Nat.le_of_ble_eq_true rfl) (Nat.le_of_ble_eq_true rfl) rfl rfl
  · have hs := (hmo p hp).2
    by_cases q1 : M.1 75 (mo p) = nI ow
    rotate_left
    · skip
      refine e_iload_4 dX4_expiring_35 rfl ?_
      refine e_aload_0 dX4_expiring_37 rfl ?_
      refine e_getI dX4_expiring_38 rfl lkX4_79 rfl ps_64 (by decide) (by decide) ?_
      refine e_topi (nI rc) hmc ?_
      refine e_nc_ge_f dX4_expiring_41 rfl ⟨114, by decide⟩ (by omega) (by omega) hp ?_
      refine e_aload_0 dX4_expiring_44 rfl ?_
      refine e_getR dX4_expiring_45 rfl lkX4_25 rfl ps_64 (by decide) (by decide) (mr_of hmr rfl) ?_
      refine e_iload_4 dX4_expiring_48 rfl ?_
      refine e_iald dX4_expiring_50 rfl ps_70 (by decide) rfl (by omega) ?_
      refine e_topi (nI (mo p)) (hmo p hp).1 ?_
      refine e_istore_5 dX4_expiring_51 rfl (Nat.le_of_ble_eq_true rfl) rfl ?_
      refine e_iload_3 dX4_expiring_53 rfl ?_
      refine e_aload_0 dX4_expiring_54 rfl ?_
      refine e_getR dX4_expiring_55 rfl lkX4_41 rfl ps_64 (by decide) (by decide) (mr_of hmr rfl) ?_
      refine e_iload_5 dX4_expiring_58 rfl ?_
      refine e_iald dX4_expiring_60 rfl ps_75 (by decide) rfl (by omega) ?_
      refine e_iload_1 dX4_expiring_61 rfl ?_
      refine e_ic_ne_t (tgt := 105) dX4_expiring_62 (by decide) q1 ?_
      refine e_iconst (v := nI 0) dX4_expiring_105 rfl ic_0 ?_
      refine e_iadd dX4_expiring_106 rfl ?_
      refine e_topi (nI (cntN (meB M mo (nI ow) (nI d)) p + 0)) (nI_add _ _) ?_
      refine e_istore_3 dX4_expiring_107 rfl (Nat.le_of_ble_eq_true rfl) rfl ?_
      refine e_iinc_4 (v := nI (p + 1)) dX4_expiring_108 rfl (Nat.le_of_ble_eq_true rfl) rfl (nI_1 p) ?_
      refine e_goto (tgt := 35) dX4_expiring_111 (by decide) ?_
      refine e_weak (weak_c (weak_c (weak_c (weak_c (weak_c (weak_n weak_nil)))))) ?_
      refine e_loc ?_ ih
      rw [cntN, if_neg (show ¬ meB M mo (nI ow) (nI d) p = true by unfold meB; rw [decide_eq_false q1, Bool.false_and]; decide)]; rfl
    by_cases q2 : M.1 76 (mo p) = -1
    · skip
      refine e_iload_4 dX4_expiring_35 rfl ?_
      refine e_aload_0 dX4_expiring_37 rfl ?_
      refine e_getI dX4_expiring_38 rfl lkX4_79 rfl ps_64 (by decide) (by decide) ?_
      refine e_topi (nI rc) hmc ?_
      refine e_nc_ge_f dX4_expiring_41 rfl ⟨114, by decide⟩ (by omega) (by omega) hp ?_
      refine e_aload_0 dX4_expiring_44 rfl ?_
      refine e_getR dX4_expiring_45 rfl lkX4_25 rfl ps_64 (by decide) (by decide) (mr_of hmr rfl) ?_
      refine e_iload_4 dX4_expiring_48 rfl ?_
      refine e_iald dX4_expiring_50 rfl ps_70 (by decide) rfl (by omega) ?_
      refine e_topi (nI (mo p)) (hmo p hp).1 ?_
      refine e_istore_5 dX4_expiring_51 rfl (Nat.le_of_ble_eq_true rfl) rfl ?_
      refine e_iload_3 dX4_expiring_53 rfl ?_
      refine e_aload_0 dX4_expiring_54 rfl ?_
      refine e_getR dX4_expiring_55 rfl lkX4_41 rfl ps_64 (by decide) (by decide) (mr_of hmr rfl) ?_
      refine e_iload_5 dX4_expiring_58 rfl ?_
      refine e_iald dX4_expiring_60 rfl ps_75 (by decide) rfl (by omega) ?_
      refine e_iload_1 dX4_expiring_61 rfl ?_
      refine e_ic_ne_f dX4_expiring_62 rfl ⟨105, by decide⟩ q1 ?_
      refine e_aload_0 dX4_expiring_65 rfl ?_
      refine e_getR dX4_expiring_66 rfl lkX4_44 rfl ps_64 (by decide) (by decide) (mr_of hmr rfl) ?_
      refine e_iload_5 dX4_expiring_69 rfl ?_
      refine e_iald dX4_expiring_71 rfl ps_76 (by decide) rfl (by omega) ?_
      refine e_iconst (v := -1) dX4_expiring_72 rfl ic_m1 ?_
      refine e_ic_eq_t (tgt := 105) dX4_expiring_73 (by decide) q2 ?_
      refine e_iconst (v := nI 0) dX4_expiring_105 rfl ic_0 ?_
      refine e_iadd dX4_expiring_106 rfl ?_
      refine e_topi (nI (cntN (meB M mo (nI ow) (nI d)) p + 0)) (nI_add _ _) ?_
      refine e_istore_3 dX4_expiring_107 rfl (Nat.le_of_ble_eq_true rfl) rfl ?_
      refine e_iinc_4 (v := nI (p + 1)) dX4_expiring_108 rfl (Nat.le_of_ble_eq_true rfl) rfl (nI_1 p) ?_
      refine e_goto (tgt := 35) dX4_expiring_111 (by decide) ?_
      refine e_weak (weak_c (weak_c (weak_c (weak_c (weak_c (weak_n weak_nil)))))) ?_
      refine e_loc ?_ ih
      rw [cntN, if_neg (show ¬ meB M mo (nI ow) (nI d) p = true by unfold meB; rw [decide_eq_true q1, decide_eq_true q2, Bool.not_true, Bool.false_and, Bool.and_false]; decide)]; rfl
    cases q3 : onM M (mo p) with
    | false =>
      refine e_iload_4 dX4_expiring_35 rfl ?_
      refine e_aload_0 dX4_expiring_37 rfl ?_
      refine e_getI dX4_expiring_38 rfl lkX4_79 rfl ps_64 (by decide) (by decide) ?_
      refine e_topi (nI rc) hmc ?_
      refine e_nc_ge_f dX4_expiring_41 rfl ⟨114, by decide⟩ (by omega) (by omega) hp ?_
      refine e_aload_0 dX4_expiring_44 rfl ?_
      refine e_getR dX4_expiring_45 rfl lkX4_25 rfl ps_64 (by decide) (by decide) (mr_of hmr rfl) ?_
      refine e_iload_4 dX4_expiring_48 rfl ?_
      refine e_iald dX4_expiring_50 rfl ps_70 (by decide) rfl (by omega) ?_
      refine e_topi (nI (mo p)) (hmo p hp).1 ?_
      refine e_istore_5 dX4_expiring_51 rfl (Nat.le_of_ble_eq_true rfl) rfl ?_
      refine e_iload_3 dX4_expiring_53 rfl ?_
      refine e_aload_0 dX4_expiring_54 rfl ?_
      refine e_getR dX4_expiring_55 rfl lkX4_41 rfl ps_64 (by decide) (by decide) (mr_of hmr rfl) ?_
      refine e_iload_5 dX4_expiring_58 rfl ?_
      refine e_iald dX4_expiring_60 rfl ps_75 (by decide) rfl (by omega) ?_
      refine e_iload_1 dX4_expiring_61 rfl ?_
      refine e_ic_ne_f dX4_expiring_62 rfl ⟨105, by decide⟩ q1 ?_
      refine e_aload_0 dX4_expiring_65 rfl ?_
      refine e_getR dX4_expiring_66 rfl lkX4_44 rfl ps_64 (by decide) (by decide) (mr_of hmr rfl) ?_
      refine e_iload_5 dX4_expiring_69 rfl ?_
      refine e_iald dX4_expiring_71 rfl ps_76 (by decide) rfl (by omega) ?_
      refine e_iconst (v := -1) dX4_expiring_72 rfl ic_m1 ?_
      refine e_ic_eq_f dX4_expiring_73 rfl ⟨105, by decide⟩ q2 ?_
      refine e_aload_0 dX4_expiring_76 rfl ?_
      refine e_iload_5 dX4_expiring_77 rfl ?_
      refine e_callV dX4_expiring_79 rfl csX4_113 (m_isOn (M := cdM M 0) hf hmr hs) rfl rfl ps_64 (by decide) (by decide) ⟨Nat.le_of_ble_eq_true rfl, Nat.le_of_ble_eq_true rfl⟩ ⟨Nat.le_of_ble_eq_true rfl, Nat.le_of_ble_eq_true rfl⟩ rfl rfl (Nat.le_of_ble_eq_true rfl) ?_
      refine e_topi (bI (onM M (mo p))) rfl ?_
      refine e_if_eq_t (tgt := 105) dX4_expiring_82 (by decide) (bI0 q3) ?_
      refine e_iconst (v := nI 0) dX4_expiring_105 rfl ic_0 ?_
      refine e_iadd dX4_expiring_106 rfl ?_
      refine e_topi (nI (cntN (meB M mo (nI ow) (nI d)) p + 0)) (nI_add _ _) ?_
      refine e_istore_3 dX4_expiring_107 rfl (Nat.le_of_ble_eq_true rfl) rfl ?_
      refine e_iinc_4 (v := nI (p + 1)) dX4_expiring_108 rfl (Nat.le_of_ble_eq_true rfl) rfl (nI_1 p) ?_
      refine e_goto (tgt := 35) dX4_expiring_111 (by decide) ?_
      refine e_weak (weak_c (weak_c (weak_c (weak_c (weak_c (weak_n weak_nil)))))) ?_
      refine e_loc ?_ ih
      rw [cntN, if_neg (show ¬ meB M mo (nI ow) (nI d) p = true by unfold meB; rw [q3, Bool.false_and, Bool.and_false, Bool.and_false]; decide)]; rfl
    | true =>
      by_cases q4 : M.1 76 (mo p) < M.1 64 1 + nI d
      · skip
        refine e_iload_4 dX4_expiring_35 rfl ?_
        refine e_aload_0 dX4_expiring_37 rfl ?_
        refine e_getI dX4_expiring_38 rfl lkX4_79 rfl ps_64 (by decide) (by decide) ?_
        refine e_topi (nI rc) hmc ?_
        refine e_nc_ge_f dX4_expiring_41 rfl ⟨114, by decide⟩ (by omega) (by omega) hp ?_
        refine e_aload_0 dX4_expiring_44 rfl ?_
        refine e_getR dX4_expiring_45 rfl lkX4_25 rfl ps_64 (by decide) (by decide) (mr_of hmr rfl) ?_
        refine e_iload_4 dX4_expiring_48 rfl ?_
        refine e_iald dX4_expiring_50 rfl ps_70 (by decide) rfl (by omega) ?_
        refine e_topi (nI (mo p)) (hmo p hp).1 ?_
        refine e_istore_5 dX4_expiring_51 rfl (Nat.le_of_ble_eq_true rfl) rfl ?_
        refine e_iload_3 dX4_expiring_53 rfl ?_
        refine e_aload_0 dX4_expiring_54 rfl ?_
        refine e_getR dX4_expiring_55 rfl lkX4_41 rfl ps_64 (by decide) (by decide) (mr_of hmr rfl) ?_
        refine e_iload_5 dX4_expiring_58 rfl ?_
        refine e_iald dX4_expiring_60 rfl ps_75 (by decide) rfl (by omega) ?_
        refine e_iload_1 dX4_expiring_61 rfl ?_
        refine e_ic_ne_f dX4_expiring_62 rfl ⟨105, by decide⟩ q1 ?_
        refine e_aload_0 dX4_expiring_65 rfl ?_
        refine e_getR dX4_expiring_66 rfl lkX4_44 rfl ps_64 (by decide) (by decide) (mr_of hmr rfl) ?_
        refine e_iload_5 dX4_expiring_69 rfl ?_
        refine e_iald dX4_expiring_71 rfl ps_76 (by decide) rfl (by omega) ?_
        refine e_iconst (v := -1) dX4_expiring_72 rfl ic_m1 ?_
        refine e_ic_eq_f dX4_expiring_73 rfl ⟨105, by decide⟩ q2 ?_
        refine e_aload_0 dX4_expiring_76 rfl ?_
        refine e_iload_5 dX4_expiring_77 rfl ?_
        refine e_callV dX4_expiring_79 rfl csX4_113 (m_isOn (M := cdM M 0) hf hmr hs) rfl rfl ps_64 (by decide) (by decide) ⟨Nat.le_of_ble_eq_true rfl, Nat.le_of_ble_eq_true rfl⟩ ⟨Nat.le_of_ble_eq_true rfl, Nat.le_of_ble_eq_true rfl⟩ rfl rfl (Nat.le_of_ble_eq_true rfl) ?_
        refine e_topi (bI (onM M (mo p))) rfl ?_
        refine e_if_eq_f dX4_expiring_82 rfl ⟨105, by decide⟩ (bI1 q3) ?_
        refine e_aload_0 dX4_expiring_85 rfl ?_
        refine e_getI dX4_expiring_86 rfl lkX4_110 rfl ps_64 (by decide) (by decide) ?_
        refine e_iload_2 dX4_expiring_89 rfl ?_
        refine e_iadd dX4_expiring_90 rfl ?_
        refine e_aload_0 dX4_expiring_91 rfl ?_
        refine e_getR dX4_expiring_92 rfl lkX4_44 rfl ps_64 (by decide) (by decide) (mr_of hmr rfl) ?_
        refine e_iload_5 dX4_expiring_95 rfl ?_
        refine e_iald dX4_expiring_97 rfl ps_76 (by decide) rfl (by omega) ?_
        refine e_ic_le_f dX4_expiring_98 rfl ⟨105, by decide⟩ (Int32.not_le.mpr q4) ?_
        refine e_iconst (v := nI 1) dX4_expiring_101 rfl ic_1 ?_
        refine e_goto (tgt := 106) dX4_expiring_102 (by decide) ?_
        refine e_iadd dX4_expiring_106 rfl ?_
        refine e_topi (nI (cntN (meB M mo (nI ow) (nI d)) p + 1)) (nI_add _ _) ?_
        refine e_istore_3 dX4_expiring_107 rfl (Nat.le_of_ble_eq_true rfl) rfl ?_
        refine e_iinc_4 (v := nI (p + 1)) dX4_expiring_108 rfl (Nat.le_of_ble_eq_true rfl) rfl (nI_1 p) ?_
        refine e_goto (tgt := 35) dX4_expiring_111 (by decide) ?_
        refine e_weak (weak_c (weak_c (weak_c (weak_c (weak_c (weak_n weak_nil)))))) ?_
        refine e_loc ?_ ih
        rw [cntN, if_pos (show meB M mo (nI ow) (nI d) p = true by unfold meB; rw [decide_eq_true q1, decide_eq_false q2, q3, decide_eq_true q4]; rfl)]
      · skip
        refine e_iload_4 dX4_expiring_35 rfl ?_
        refine e_aload_0 dX4_expiring_37 rfl ?_
        refine e_getI dX4_expiring_38 rfl lkX4_79 rfl ps_64 (by decide) (by decide) ?_
        refine e_topi (nI rc) hmc ?_
        refine e_nc_ge_f dX4_expiring_41 rfl ⟨114, by decide⟩ (by omega) (by omega) hp ?_
        refine e_aload_0 dX4_expiring_44 rfl ?_
        refine e_getR dX4_expiring_45 rfl lkX4_25 rfl ps_64 (by decide) (by decide) (mr_of hmr rfl) ?_
        refine e_iload_4 dX4_expiring_48 rfl ?_
        refine e_iald dX4_expiring_50 rfl ps_70 (by decide) rfl (by omega) ?_
        refine e_topi (nI (mo p)) (hmo p hp).1 ?_
        refine e_istore_5 dX4_expiring_51 rfl (Nat.le_of_ble_eq_true rfl) rfl ?_
        refine e_iload_3 dX4_expiring_53 rfl ?_
        refine e_aload_0 dX4_expiring_54 rfl ?_
        refine e_getR dX4_expiring_55 rfl lkX4_41 rfl ps_64 (by decide) (by decide) (mr_of hmr rfl) ?_
        refine e_iload_5 dX4_expiring_58 rfl ?_
        refine e_iald dX4_expiring_60 rfl ps_75 (by decide) rfl (by omega) ?_
        refine e_iload_1 dX4_expiring_61 rfl ?_
        refine e_ic_ne_f dX4_expiring_62 rfl ⟨105, by decide⟩ q1 ?_
        refine e_aload_0 dX4_expiring_65 rfl ?_
        refine e_getR dX4_expiring_66 rfl lkX4_44 rfl ps_64 (by decide) (by decide) (mr_of hmr rfl) ?_
        refine e_iload_5 dX4_expiring_69 rfl ?_
        refine e_iald dX4_expiring_71 rfl ps_76 (by decide) rfl (by omega) ?_
        refine e_iconst (v := -1) dX4_expiring_72 rfl ic_m1 ?_
        refine e_ic_eq_f dX4_expiring_73 rfl ⟨105, by decide⟩ q2 ?_
        refine e_aload_0 dX4_expiring_76 rfl ?_
        refine e_iload_5 dX4_expiring_77 rfl ?_
        refine e_callV dX4_expiring_79 rfl csX4_113 (m_isOn (M := cdM M 0) hf hmr hs) rfl rfl ps_64 (by decide) (by decide) ⟨Nat.le_of_ble_eq_true rfl, Nat.le_of_ble_eq_true rfl⟩ ⟨Nat.le_of_ble_eq_true rfl, Nat.le_of_ble_eq_true rfl⟩ rfl rfl (Nat.le_of_ble_eq_true rfl) ?_
        refine e_topi (bI (onM M (mo p))) rfl ?_
        refine e_if_eq_f dX4_expiring_82 rfl ⟨105, by decide⟩ (bI1 q3) ?_
        refine e_aload_0 dX4_expiring_85 rfl ?_
        refine e_getI dX4_expiring_86 rfl lkX4_110 rfl ps_64 (by decide) (by decide) ?_
        refine e_iload_2 dX4_expiring_89 rfl ?_
        refine e_iadd dX4_expiring_90 rfl ?_
        refine e_aload_0 dX4_expiring_91 rfl ?_
        refine e_getR dX4_expiring_92 rfl lkX4_44 rfl ps_64 (by decide) (by decide) (mr_of hmr rfl) ?_
        refine e_iload_5 dX4_expiring_95 rfl ?_
        refine e_iald dX4_expiring_97 rfl ps_76 (by decide) rfl (by omega) ?_
        refine e_ic_le_t (tgt := 105) dX4_expiring_98 (by decide) (Int32.not_lt.mp q4) ?_
        refine e_iconst (v := nI 0) dX4_expiring_105 rfl ic_0 ?_
        refine e_iadd dX4_expiring_106 rfl ?_
        refine e_topi (nI (cntN (meB M mo (nI ow) (nI d)) p + 0)) (nI_add _ _) ?_
        refine e_istore_3 dX4_expiring_107 rfl (Nat.le_of_ble_eq_true rfl) rfl ?_
        refine e_iinc_4 (v := nI (p + 1)) dX4_expiring_108 rfl (Nat.le_of_ble_eq_true rfl) rfl (nI_1 p) ?_
        refine e_goto (tgt := 35) dX4_expiring_111 (by decide) ?_
        refine e_weak (weak_c (weak_c (weak_c (weak_c (weak_c (weak_n weak_nil)))))) ?_
        refine e_loc ?_ ih
        rw [cntN, if_neg (show ¬ meB M mo (nI ow) (nI d) p = true by unfold meB; rw [q3, decide_eq_false q4, Bool.and_false, Bool.and_false, Bool.and_false]; decide)]; rfl
theorem m_expiring_no1 {l : Launch} (hf : l.stackTraces = false) {M : pmM} {od : Nat → Nat} (hmr : M.2.1 = mrC od) {x : Int32} (hx : ¬ vp_in x 6) {y : Int32} : Sp l kX4_expiring 86 2 0 0 [.ref 64, .int x, .int y] M (.inl (some (.int (nI 0)))) (cdM (cdM M 0) 1) := by
  refine sp_of hf (by decide +kernel) (Nat.le_of_ble_eq_true rfl) (by intro v hv; simp at hv; rcases hv with rfl | rfl | rfl <;> rfl) rfl ?_
  refine e_aload_0 dX4_expiring_0 rfl ?_
  refine e_iconst (v := nI 0) dX4_expiring_1 rfl ic_0 ?_
  refine e_putI dX4_expiring_2 rfl lkX4_68 rfl rfl rfl ps_64 (by decide) (by decide) ?_
  refine e_iload_1 dX4_expiring_5 rfl ?_
  refine e_iconst (v := nI 0) dX4_expiring_6 rfl ic_0 ?_
  refine e_iconst (v := nI 5) dX4_expiring_7 rfl ic_5 ?_
  refine e_callS dX4_expiring_8 rfl csX4_75 (m_in_f (M := cdM M 0) hf (fun q => inE_n hx (by decide) ⟨q.1, by rw [pk_sub (by decide)]; exact q.2⟩)) rfl rfl ⟨Nat.le_of_ble_eq_true rfl, Nat.le_of_ble_eq_true rfl⟩ ⟨Nat.le_of_ble_eq_true rfl, Nat.le_of_ble_eq_true rfl⟩ rfl rfl (Nat.le_of_ble_eq_true rfl) ?_
  refine e_if_eq_t (tgt := 24) dX4_expiring_11 (by decide) (by decide) ?_
  refine e_aload_0 dX4_expiring_24 rfl ?_
  refine e_iconst (v := nI 1) dX4_expiring_25 rfl ic_1 ?_
  refine e_callV dX4_expiring_26 rfl csX4_90 (m_fails (M := (cdM M 0)) (k := 1) hf hmr) rfl rfl ps_64 (by decide) (by decide) ⟨Nat.le_of_ble_eq_true rfl, Nat.le_of_ble_eq_true rfl⟩ ⟨Nat.le_of_ble_eq_true rfl, Nat.le_of_ble_eq_true rfl⟩ rfl rfl (Nat.le_of_ble_eq_true rfl) ?_
  exact e_iret dX4_expiring_29 rfl rfl (Nat.le_of_ble_eq_true rfl) (Nat.le_of_ble_eq_true rfl) rfl rfl
theorem in99_n {y : Int32} (h : ∀ v : Nat, 1 ≤ v → v ≤ 99 → y ≠ nI v) : ¬ (nI 1 ≤ y ∧ y ≤ nI 99) := fun ⟨q1, q2⟩ => by
  obtain ⟨j, hj, rfl⟩ := nI_of (show ¬ y < 0 from fun z => by
    have h1 := Int32.lt_of_le_of_lt q1 z
    exact nI_nlt (show 0 ≤ 1 by decide) (by decide) h1)
  exact h j ((nI_leI (by decide) hj).mp q1) ((nI_leI hj (by decide)).mp q2) rfl
theorem m_expiring_no2 {l : Launch} (hf : l.stackTraces = false) {M : pmM} {od : Nat → Nat} (hmr : M.2.1 = mrC od) {ow : Nat} (how : ow < 6) {y : Int32} (hx : ∀ v : Nat, 1 ≤ v → v ≤ 99 → y ≠ nI v) : Sp l kX4_expiring 86 2 0 0 [.ref 64, .int (nI ow), .int y] M (.inl (some (.int (nI 0)))) (cdM (cdM M 0) 1) := by
  refine sp_of hf (by decide +kernel) (Nat.le_of_ble_eq_true rfl) (by intro v hv; simp at hv; rcases hv with rfl | rfl | rfl <;> rfl) rfl ?_
  refine e_aload_0 dX4_expiring_0 rfl ?_
  refine e_iconst (v := nI 0) dX4_expiring_1 rfl ic_0 ?_
  refine e_putI dX4_expiring_2 rfl lkX4_68 rfl rfl rfl ps_64 (by decide) (by decide) ?_
  refine e_iload_1 dX4_expiring_5 rfl ?_
  refine e_iconst (v := nI 0) dX4_expiring_6 rfl ic_0 ?_
  refine e_iconst (v := nI 5) dX4_expiring_7 rfl ic_5 ?_
  refine e_callS dX4_expiring_8 rfl csX4_75 (m_in_t (M := cdM M 0) hf (nI_le (Nat.zero_le ow) (by omega)) (nI_le (show ow ≤ 5 by omega) (by decide))) rfl rfl ⟨Nat.le_of_ble_eq_true rfl, Nat.le_of_ble_eq_true rfl⟩ ⟨Nat.le_of_ble_eq_true rfl, Nat.le_of_ble_eq_true rfl⟩ rfl rfl (Nat.le_of_ble_eq_true rfl) ?_
  refine e_if_eq_f dX4_expiring_11 rfl ⟨24, by decide⟩ (by decide) ?_
  refine e_iload_2 dX4_expiring_14 rfl ?_
  refine e_iconst (v := nI 1) dX4_expiring_15 rfl ic_1 ?_
  refine e_bipush (v := nI 99) dX4_expiring_16 rfl bc_99 ?_
  refine e_callS dX4_expiring_18 rfl csX4_75 (m_in_f (M := cdM M 0) hf (in99_n hx)) rfl rfl ⟨Nat.le_of_ble_eq_true rfl, Nat.le_of_ble_eq_true rfl⟩ ⟨Nat.le_of_ble_eq_true rfl, Nat.le_of_ble_eq_true rfl⟩ rfl rfl (Nat.le_of_ble_eq_true rfl) ?_
  refine e_if_ne_f dX4_expiring_21 rfl ⟨30, by decide⟩ (by decide) ?_
  refine e_aload_0 dX4_expiring_24 rfl ?_
  refine e_iconst (v := nI 1) dX4_expiring_25 rfl ic_1 ?_
  refine e_callV dX4_expiring_26 rfl csX4_90 (m_fails (M := (cdM M 0)) (k := 1) hf hmr) rfl rfl ps_64 (by decide) (by decide) ⟨Nat.le_of_ble_eq_true rfl, Nat.le_of_ble_eq_true rfl⟩ ⟨Nat.le_of_ble_eq_true rfl, Nat.le_of_ble_eq_true rfl⟩ rfl rfl (Nat.le_of_ble_eq_true rfl) ?_
  exact e_iret dX4_expiring_29 rfl rfl (Nat.le_of_ble_eq_true rfl) (Nat.le_of_ble_eq_true rfl) rfl rfl
theorem m_pass_ok {l : Launch} (hf : l.stackTraces = false) {M : pmM} {od : Nat → Nat} (hmr : M.2.1 = mrC od) {td : Nat} (htd : M.1 64 1 = nI td) (htd9 : td ≤ 999) {d : Nat} (h1 : 1 ≤ d) (h2 : d ≤ 99) (h3 : td + d ≤ 999) : Sp l kX4_pass 86 2 0 0 [.ref 64, .int (nI d)] M (.inl (some (.int (nI (td + d))))) (mpaM M (td + d)) := by
  refine sp_of hf (by decide +kernel) (Nat.le_of_ble_eq_true rfl) (by intro v hv; simp at hv; rcases hv with rfl | rfl <;> rfl) rfl ?_
  refine e_aload_0 dX4_pass_0 rfl ?_
  refine e_iconst (v := nI 0) dX4_pass_1 rfl ic_0 ?_
  refine e_putI dX4_pass_2 rfl lkX4_68 rfl rfl rfl ps_64 (by decide) (by decide) ?_
  refine e_iload_1 dX4_pass_5 rfl ?_
  refine e_iconst (v := nI 1) dX4_pass_6 rfl ic_1 ?_
  refine e_bipush (v := nI 99) dX4_pass_7 rfl bc_99 ?_
  refine e_callS dX4_pass_9 rfl csX4_75 (m_in_t (M := cdM M 0) hf (nI_le h1 (by omega)) (nI_le h2 (by decide))) rfl rfl ⟨Nat.le_of_ble_eq_true rfl, Nat.le_of_ble_eq_true rfl⟩ ⟨Nat.le_of_ble_eq_true rfl, Nat.le_of_ble_eq_true rfl⟩ rfl rfl (Nat.le_of_ble_eq_true rfl) ?_
  refine e_if_eq_f dX4_pass_12 rfl ⟨27, by decide⟩ (by decide) ?_
  refine e_aload_0 dX4_pass_15 rfl ?_
  refine e_getI dX4_pass_16 rfl lkX4_110 rfl ps_64 (by decide) (by decide) ?_
  refine e_topi (nI td) htd ?_
  refine e_iload_1 dX4_pass_19 rfl ?_
  refine e_iadd dX4_pass_20 rfl ?_
  refine e_topi (nI (td + d)) (nI_add _ _) ?_
  refine e_sipush (v := nI 999) dX4_pass_21 rfl sc_999 ?_
  refine e_nc_le_t (tgt := 33) dX4_pass_24 (by decide) (by omega) (by omega) h3 ?_
  refine e_aload_0 dX4_pass_33 rfl ?_
  refine e_dup dX4_pass_34 rfl rfl ?_
  refine e_getI dX4_pass_35 rfl lkX4_110 rfl ps_64 (by decide) (by decide) ?_
  refine e_topi (nI td) htd ?_
  refine e_iload_1 dX4_pass_38 rfl ?_
  refine e_iadd dX4_pass_39 rfl ?_
  refine e_topi (nI (td + d)) (nI_add _ _) ?_
  refine e_putI dX4_pass_40 rfl lkX4_110 rfl rfl rfl ps_64 (by decide) (by decide) ?_
  refine e_aload_0 dX4_pass_43 rfl ?_
  refine e_getI dX4_pass_44 rfl lkX4_110 rfl ps_64 (by decide) (by decide) ?_
  refine e_topi (nI (td + d)) rfl ?_
  exact e_iret dX4_pass_47 rfl rfl (Nat.le_of_ble_eq_true rfl) (Nat.le_of_ble_eq_true rfl) rfl rfl
theorem m_pass_no1 {l : Launch} (hf : l.stackTraces = false) {M : pmM} {od : Nat → Nat} (hmr : M.2.1 = mrC od) {x : Int32} (hx : ∀ v : Nat, 1 ≤ v → v ≤ 99 → x ≠ nI v) : Sp l kX4_pass 86 2 0 0 [.ref 64, .int x] M (.inl (some (.int (nI 0)))) (cdM (cdM M 0) 1) := by
  refine sp_of hf (by decide +kernel) (Nat.le_of_ble_eq_true rfl) (by intro v hv; simp at hv; rcases hv with rfl | rfl <;> rfl) rfl ?_
  refine e_aload_0 dX4_pass_0 rfl ?_
  refine e_iconst (v := nI 0) dX4_pass_1 rfl ic_0 ?_
  refine e_putI dX4_pass_2 rfl lkX4_68 rfl rfl rfl ps_64 (by decide) (by decide) ?_
  refine e_iload_1 dX4_pass_5 rfl ?_
  refine e_iconst (v := nI 1) dX4_pass_6 rfl ic_1 ?_
  refine e_bipush (v := nI 99) dX4_pass_7 rfl bc_99 ?_
  refine e_callS dX4_pass_9 rfl csX4_75 (m_in_f (M := cdM M 0) hf (in99_n hx)) rfl rfl ⟨Nat.le_of_ble_eq_true rfl, Nat.le_of_ble_eq_true rfl⟩ ⟨Nat.le_of_ble_eq_true rfl, Nat.le_of_ble_eq_true rfl⟩ rfl rfl (Nat.le_of_ble_eq_true rfl) ?_
  refine e_if_eq_t (tgt := 27) dX4_pass_12 (by decide) (by decide) ?_
  refine e_aload_0 dX4_pass_27 rfl ?_
  refine e_iconst (v := nI 1) dX4_pass_28 rfl ic_1 ?_
  refine e_callV dX4_pass_29 rfl csX4_90 (m_fails (M := (cdM M 0)) (k := 1) hf hmr) rfl rfl ps_64 (by decide) (by decide) ⟨Nat.le_of_ble_eq_true rfl, Nat.le_of_ble_eq_true rfl⟩ ⟨Nat.le_of_ble_eq_true rfl, Nat.le_of_ble_eq_true rfl⟩ rfl rfl (Nat.le_of_ble_eq_true rfl) ?_
  exact e_iret dX4_pass_32 rfl rfl (Nat.le_of_ble_eq_true rfl) (Nat.le_of_ble_eq_true rfl) rfl rfl
theorem m_pass_no2 {l : Launch} (hf : l.stackTraces = false) {M : pmM} {od : Nat → Nat} (hmr : M.2.1 = mrC od) {td : Nat} (htd : M.1 64 1 = nI td) (htd9 : td ≤ 999) {d : Nat} (h1 : 1 ≤ d) (h2 : d ≤ 99) (h3 : 999 < td + d) : Sp l kX4_pass 86 2 0 0 [.ref 64, .int (nI d)] M (.inl (some (.int (nI 0)))) (cdM (cdM M 0) 1) := by
  refine sp_of hf (by decide +kernel) (Nat.le_of_ble_eq_true rfl) (by intro v hv; simp at hv; rcases hv with rfl | rfl <;> rfl) rfl ?_
  refine e_aload_0 dX4_pass_0 rfl ?_
  refine e_iconst (v := nI 0) dX4_pass_1 rfl ic_0 ?_
  refine e_putI dX4_pass_2 rfl lkX4_68 rfl rfl rfl ps_64 (by decide) (by decide) ?_
  refine e_iload_1 dX4_pass_5 rfl ?_
  refine e_iconst (v := nI 1) dX4_pass_6 rfl ic_1 ?_
  refine e_bipush (v := nI 99) dX4_pass_7 rfl bc_99 ?_
  refine e_callS dX4_pass_9 rfl csX4_75 (m_in_t (M := cdM M 0) hf (nI_le h1 (by omega)) (nI_le h2 (by decide))) rfl rfl ⟨Nat.le_of_ble_eq_true rfl, Nat.le_of_ble_eq_true rfl⟩ ⟨Nat.le_of_ble_eq_true rfl, Nat.le_of_ble_eq_true rfl⟩ rfl rfl (Nat.le_of_ble_eq_true rfl) ?_
  refine e_if_eq_f dX4_pass_12 rfl ⟨27, by decide⟩ (by decide) ?_
  refine e_aload_0 dX4_pass_15 rfl ?_
  refine e_getI dX4_pass_16 rfl lkX4_110 rfl ps_64 (by decide) (by decide) ?_
  refine e_topi (nI td) htd ?_
  refine e_iload_1 dX4_pass_19 rfl ?_
  refine e_iadd dX4_pass_20 rfl ?_
  refine e_topi (nI (td + d)) (nI_add _ _) ?_
  refine e_sipush (v := nI 999) dX4_pass_21 rfl sc_999 ?_
  refine e_nc_le_f dX4_pass_24 rfl ⟨33, by decide⟩ (by omega) (by omega) h3 ?_
  refine e_aload_0 dX4_pass_27 rfl ?_
  refine e_iconst (v := nI 1) dX4_pass_28 rfl ic_1 ?_
  refine e_callV dX4_pass_29 rfl csX4_90 (m_fails (M := (cdM M 0)) (k := 1) hf hmr) rfl rfl ps_64 (by decide) (by decide) ⟨Nat.le_of_ble_eq_true rfl, Nat.le_of_ble_eq_true rfl⟩ ⟨Nat.le_of_ble_eq_true rfl, Nat.le_of_ble_eq_true rfl⟩ rfl rfl (Nat.le_of_ble_eq_true rfl) ?_
  exact e_iret dX4_pass_32 rfl rfl (Nat.le_of_ble_eq_true rfl) (Nat.le_of_ble_eq_true rfl) rfl rfl
theorem m_addRule_ok {l : Launch} (hf : l.stackTraces = false) {M : pmM} {od : Nat → Nat} (hmr : M.2.1 = mrC od) {rc : Nat} (hmc : M.1 64 8 = nI rc) (h8 : rc ≤ 8) {mo : Nat → Nat} (hmo : ∀ p, p < rc → M.1 70 p = nI (mo p) ∧ mo p < 8) {oc : Nat} (hoc : M.1 64 2 = nI oc) (hoc8 : oc ≤ 8) {g : Nat} (hg : M.1 64 9 = nI g) {p : Nat} (hp : p ≤ rc) (hlt : rc < 8) {a b c : Int32} (ha : obOk oc a) (hb : obOk oc b) (hc : obOk oc c) {ac : Int32} (hac : ac = nI 97 ∨ ac = nI 100) {ow : Nat} (how : ow < 6) {s : Nat} (hs : s < 8) (hs0 : M.1 71 s = 0) (hs1 : ∀ q, q < s → M.1 71 q ≠ 0) : Sp l kX4_addRule 86 2 0 0 [.ref 64, .int (nI p), .int ac, .int a, .int b, .int c, .int (nI ow)] M (.inl (some (.int (nI g)))) (maM (nsM M s (nI g) (if ac = nI 97 then nI 1 else nI 0) a b c (nI ow) (M.1 64 1)) s rc p g) := by
  refine sp_of hf (by decide +kernel) (Nat.le_of_ble_eq_true rfl) (by intro v hv; simp at hv; rcases hv with rfl | rfl | rfl | rfl | rfl | rfl | rfl <;> rfl) rfl ?_
  have H : Ev l kX4_addRule (gM 86 0 0 (.inl (some (.int (nI g)))) (maM (nsM M s (nI g) (if ac = nI 97 then nI 1 else nI 0) a b c (nI ow) (M.1 64 1)) s rc p g)) (rmd 2 0 0) 86 0 0 110 [some (.ref 64), some (.int (nI p)), some (.int ac), some (.int a), some (.int b), some (.int c), some (.int (nI ow)), none, none] [] (cdM M 0) := by
    refine e_iconst (v := nI 0) dX4_addRule_110 rfl ic_0 ?_
    refine e_istore_7 dX4_addRule_111 rfl (Nat.le_of_ble_eq_true rfl) rfl ?_
    refine loop_up (P := fun q => Ev l kX4_addRule (gM 86 0 0 (.inl (some (.int (nI g)))) (maM (nsM M s (nI g) (if ac = nI 97 then nI 1 else nI 0) a b c (nI ow) (M.1 64 1)) s rc p g)) (rmd 2 0 0) 86 0 0 113 [some (.ref 64), some (.int (nI p)), some (.int ac), some (.int a), some (.int b), some (.int c), some (.int (nI ow)), some (.int (nI q)), none] [] (cdM M 0)) ?_ (fun q hq ih => ?_) 0 (Nat.zero_le s)
    · refine e_aload_0 dX4_addRule_113 rfl ?_
      refine e_getR dX4_addRule_114 rfl lkX4_28 rfl ps_64 (by decide) (by decide) (mr_of hmr rfl) ?_
      refine e_iload_7 dX4_addRule_117 rfl ?_
      refine e_zald dX4_addRule_119 rfl ps_71 (by decide) rfl (by omega) ?_
      refine e_if_eq_t (tgt := 129) dX4_addRule_120 (by decide) hs0 ?_
      refine e_aload_0 dX4_addRule_129 rfl ?_
      refine e_getR dX4_addRule_130 rfl lkX4_28 rfl ps_64 (by decide) (by decide) (mr_of hmr rfl) ?_
      refine e_iload_7 dX4_addRule_133 rfl ?_
      refine e_iconst (v := nI 1) dX4_addRule_135 rfl ic_1 ?_
      refine e_zast dX4_addRule_136 rfl ps_71 (by decide) rfl (by omega) rfl ?_
      refine e_aload_0 dX4_addRule_137 rfl ?_
      refine e_getR dX4_addRule_138 rfl lkX4_32 rfl ps_64 (by decide) (by decide) (mr_of hmr rfl) ?_
      refine e_iload_7 dX4_addRule_141 rfl ?_
      refine e_aload_0 dX4_addRule_143 rfl ?_
      refine e_getI dX4_addRule_144 rfl lkX4_127 rfl ps_64 (by decide) (by decide) ?_
      refine e_topi (nI g) hg ?_
      refine e_iast dX4_addRule_147 rfl ps_72 (by decide) rfl (by omega) ?_
      refine e_aload_0 dX4_addRule_148 rfl ?_
      refine e_getR dX4_addRule_149 rfl lkX4_35 rfl ps_64 (by decide) (by decide) (mr_of hmr rfl) ?_
      refine e_iload_7 dX4_addRule_152 rfl ?_
      have K0 : Ev l kX4_addRule (gM 86 0 0 (.inl (some (.int (nI g)))) (maM (nsM M s (nI g) (if ac = nI 97 then nI 1 else nI 0) a b c (nI ow) (M.1 64 1)) s rc p g)) (rmd 2 0 0) 86 0 0 165 [some (.ref 64), some (.int (nI p)), some (.int ac), some (.int a), some (.int b), some (.int c), some (.int (nI ow)), some (.int (nI s)), none] [.int (if ac = nI 97 then nI 1 else nI 0), .int (nI s), .ref 73] (pm2 (pm2 (cdM M 0).1 71 s (nI 1)) 72 s (nI g), M.2) := by
        refine e_zast dX4_addRule_165 rfl ps_73 (by decide) rfl (by omega) (by split <;> rfl) ?_
        refine e_aload_0 dX4_addRule_166 rfl ?_
        refine e_getR dX4_addRule_167 rfl lkX4_38 rfl ps_64 (by decide) (by decide) (mr_of hmr rfl) ?_
        refine e_iconst (v := nI 3) dX4_addRule_170 rfl ic_3 ?_
        refine e_iload_7 dX4_addRule_171 rfl ?_
        refine e_imul dX4_addRule_173 rfl ?_
        refine e_topi (nI (3 * s)) (pk_mul _ _) ?_
        refine e_iload_3 dX4_addRule_174 rfl ?_
        refine e_iast dX4_addRule_175 rfl ps_74 (by decide) rfl (by omega) ?_
        refine e_aload_0 dX4_addRule_176 rfl ?_
        refine e_getR dX4_addRule_177 rfl lkX4_38 rfl ps_64 (by decide) (by decide) (mr_of hmr rfl) ?_
        refine e_iconst (v := nI 3) dX4_addRule_180 rfl ic_3 ?_
        refine e_iload_7 dX4_addRule_181 rfl ?_
        refine e_imul dX4_addRule_183 rfl ?_
        refine e_topi (nI (3 * s)) (pk_mul _ _) ?_
        refine e_iconst (v := nI 1) dX4_addRule_184 rfl ic_1 ?_
        refine e_iadd dX4_addRule_185 rfl ?_
        refine e_topi (nI (3 * s + 1)) (nI_add _ _) ?_
        refine e_iload_4 dX4_addRule_186 rfl ?_
        refine e_iast dX4_addRule_188 rfl ps_74 (by decide) rfl (by omega) ?_
        refine e_aload_0 dX4_addRule_189 rfl ?_
        refine e_getR dX4_addRule_190 rfl lkX4_38 rfl ps_64 (by decide) (by decide) (mr_of hmr rfl) ?_
        refine e_iconst (v := nI 3) dX4_addRule_193 rfl ic_3 ?_
        refine e_iload_7 dX4_addRule_194 rfl ?_
        refine e_imul dX4_addRule_196 rfl ?_
        refine e_topi (nI (3 * s)) (pk_mul _ _) ?_
        refine e_iconst (v := nI 2) dX4_addRule_197 rfl ic_2 ?_
        refine e_iadd dX4_addRule_198 rfl ?_
        refine e_topi (nI (3 * s + 2)) (nI_add _ _) ?_
        refine e_iload_5 dX4_addRule_199 rfl ?_
        refine e_iast dX4_addRule_201 rfl ps_74 (by decide) rfl (by omega) ?_
        refine e_aload_0 dX4_addRule_202 rfl ?_
        refine e_getR dX4_addRule_203 rfl lkX4_41 rfl ps_64 (by decide) (by decide) (mr_of hmr rfl) ?_
        refine e_iload_7 dX4_addRule_206 rfl ?_
        refine e_iload_6 dX4_addRule_208 rfl ?_
        refine e_iast dX4_addRule_210 rfl ps_75 (by decide) rfl (by omega) ?_
        refine e_aload_0 dX4_addRule_211 rfl ?_
        refine e_getR dX4_addRule_212 rfl lkX4_44 rfl ps_64 (by decide) (by decide) (mr_of hmr rfl) ?_
        refine e_iload_7 dX4_addRule_215 rfl ?_
        refine e_iconst (v := -1) dX4_addRule_217 rfl ic_m1 ?_
        refine e_iast dX4_addRule_218 rfl ps_76 (by decide) rfl (by omega) ?_
        refine e_aload_0 dX4_addRule_219 rfl ?_
        refine e_getR dX4_addRule_220 rfl lkX4_47 rfl ps_64 (by decide) (by decide) (mr_of hmr rfl) ?_
        refine e_iload_7 dX4_addRule_223 rfl ?_
        refine e_iconst (v := nI 0) dX4_addRule_225 rfl ic_0 ?_
        refine e_iast dX4_addRule_226 rfl ps_77 (by decide) rfl (by omega) ?_
        refine e_aload_0 dX4_addRule_227 rfl ?_
        refine e_getR dX4_addRule_228 rfl lkX4_50 rfl ps_64 (by decide) (by decide) (mr_of hmr rfl) ?_
        refine e_iload_7 dX4_addRule_231 rfl ?_
        refine e_aload_0 dX4_addRule_233 rfl ?_
        refine e_getI dX4_addRule_234 rfl lkX4_110 rfl ps_64 (by decide) (by decide) ?_
        refine e_iast dX4_addRule_237 rfl ps_78 (by decide) rfl (by omega) ?_
        refine e_aload_0 dX4_addRule_238 rfl ?_
        refine e_getR dX4_addRule_239 rfl lkX4_53 rfl ps_64 (by decide) (by decide) (mr_of hmr rfl) ?_
        refine e_iload_7 dX4_addRule_242 rfl ?_
        refine e_iconst (v := nI 0) dX4_addRule_244 rfl ic_0 ?_
        refine e_iast dX4_addRule_245 rfl ps_79 (by decide) rfl (by omega) ?_
        refine e_aload_0 dX4_addRule_246 rfl ?_
        refine e_getR dX4_addRule_247 rfl lkX4_56 rfl ps_64 (by decide) (by decide) (mr_of hmr rfl) ?_
        refine e_iload_7 dX4_addRule_250 rfl ?_
        refine e_iconst (v := -1) dX4_addRule_252 rfl ic_m1 ?_
        refine e_iast dX4_addRule_253 rfl ps_80 (by decide) rfl (by omega) ?_
        refine e_aload_0 dX4_addRule_254 rfl ?_
        refine e_getI dX4_addRule_255 rfl lkX4_79 rfl ps_64 (by decide) (by decide) ?_
        refine e_topi (nI rc) ((nsM_no (Or.inl (by decide)) (Or.inr (by decide))).trans hmc) ?_
        refine e_istore_8 dX4_addRule_258 rfl (Nat.le_of_ble_eq_true rfl) rfl ?_
        change Ev _ _ _ _ _ _ _ _ _ _ (nsM M s (nI g) (if ac = nI 97 then nI 1 else nI 0) a b c (nI ow) (M.1 64 1))
        have n70 : ∀ k, (nsM M s (nI g) (if ac = nI 97 then nI 1 else nI 0) a b c (nI ow) (M.1 64 1)).1 70 k = M.1 70 k := fun k => nsM_no (Or.inl (by decide)) (Or.inl (by decide))
        have n8 : (nsM M s (nI g) (if ac = nI 97 then nI 1 else nI 0) a b c (nI ow) (M.1 64 1)).1 64 8 = nI rc := (nsM_no (Or.inl (by decide)) (Or.inr (by decide))).trans hmc
        have n9 : (nsM M s (nI g) (if ac = nI 97 then nI 1 else nI 0) a b c (nI ow) (M.1 64 1)).1 64 9 = nI g := (nsM_no (Or.inl (by decide)) (Or.inr (by decide))).trans hg
        have nm : (nsM M s (nI g) (if ac = nI 97 then nI 1 else nI 0) a b c (nI ow) (M.1 64 1)).2.1 = mrC od := hmr
        generalize (nsM M s (nI g) (if ac = nI 97 then nI 1 else nI 0) a b c (nI ow) (M.1 64 1)) = N at n70 n8 n9 nm ⊢
        refine e_mem (osL_0 N rc) ?_
        refine loop_up (P := fun i => Ev l kX4_addRule (gM 86 0 0 (.inl (some (.int (nI g)))) (maM N s rc p g)) (rmd 2 0 0) 86 0 0 260 [some (.ref 64), some (.int (nI p)), some (.int ac), some (.int a), some (.int b), some (.int c), some (.int (nI ow)), some (.int (nI s)), some (.int (nI (rc - i)))] [] (osL N rc i)) ?_ (fun i hi ih2 => ?_) 0 (Nat.zero_le (rc - p))
        · refine e_iload_8 dX4_addRule_260 rfl ?_
          refine e_iload_1 dX4_addRule_262 rfl ?_
          refine e_nc_le_t (tgt := 288) dX4_addRule_263 (by decide) (by omega) (by omega) (by omega) ?_
          refine e_aload_0 dX4_addRule_288 rfl ?_
          refine e_getR dX4_addRule_289 rfl lkX4_25 rfl ps_64 (by decide) (by decide) (mr_of nm rfl) ?_
          refine e_iload_1 dX4_addRule_292 rfl ?_
          refine e_iload_7 dX4_addRule_293 rfl ?_
          refine e_iast dX4_addRule_295 rfl ps_70 (by decide) rfl (by omega) ?_
          refine e_aload_0 dX4_addRule_296 rfl ?_
          refine e_dup dX4_addRule_297 rfl rfl ?_
          refine e_getI dX4_addRule_298 rfl lkX4_79 rfl ps_64 (by decide) (by decide) ?_
          refine e_topi (nI rc) n8 ?_
          refine e_iconst (v := nI 1) dX4_addRule_301 rfl ic_1 ?_
          refine e_iadd dX4_addRule_302 rfl ?_
          refine e_topi (nI (rc + 1)) (nI_add _ _) ?_
          refine e_putI dX4_addRule_303 rfl lkX4_79 rfl rfl rfl ps_64 (by decide) (by decide) ?_
          refine e_aload_0 dX4_addRule_306 rfl ?_
          refine e_dup dX4_addRule_307 rfl rfl ?_
          refine e_getI dX4_addRule_308 rfl lkX4_127 rfl ps_64 (by decide) (by decide) ?_
          refine e_topi (nI g) n9 ?_
          refine e_iconst (v := nI 1) dX4_addRule_311 rfl ic_1 ?_
          refine e_iadd dX4_addRule_312 rfl ?_
          refine e_topi (nI (g + 1)) (nI_add _ _) ?_
          refine e_putI dX4_addRule_313 rfl lkX4_127 rfl rfl rfl ps_64 (by decide) (by decide) ?_
          refine e_aload_0 dX4_addRule_316 rfl ?_
          refine e_getI dX4_addRule_317 rfl lkX4_127 rfl ps_64 (by decide) (by decide) ?_
          refine e_topi (nI (g + 1)) rfl ?_
          refine e_iconst (v := nI 1) dX4_addRule_320 rfl ic_1 ?_
          refine e_isub dX4_addRule_321 rfl ?_
          refine e_topi (nI (g + 1 - 1)) (pk_sub (by omega)) ?_
          exact e_iret dX4_addRule_322 rfl rfl (Nat.le_of_ble_eq_true rfl) (Nat.le_of_ble_eq_true rfl) rfl rfl
        · refine e_iload_8 dX4_addRule_260 rfl ?_
          refine e_iload_1 dX4_addRule_262 rfl ?_
          refine e_nc_le_f dX4_addRule_263 rfl ⟨288, by decide⟩ (by omega) (by omega) (by omega) ?_
          refine e_aload_0 dX4_addRule_266 rfl ?_
          refine e_getR dX4_addRule_267 rfl lkX4_25 rfl ps_64 (by decide) (by decide) (mr_of nm rfl) ?_
          refine e_iload_8 dX4_addRule_270 rfl ?_
          refine e_aload_0 dX4_addRule_272 rfl ?_
          refine e_getR dX4_addRule_273 rfl lkX4_25 rfl ps_64 (by decide) (by decide) (mr_of nm rfl) ?_
          refine e_iload_8 dX4_addRule_276 rfl ?_
          refine e_iconst (v := nI 1) dX4_addRule_278 rfl ic_1 ?_
          refine e_isub dX4_addRule_279 rfl ?_
          refine e_topi (nI (rc - i - 1)) (pk_sub (by omega)) ?_
          refine e_iald dX4_addRule_280 rfl ps_70 (by decide) rfl (by omega) ?_
          refine e_iast dX4_addRule_281 rfl ps_70 (by decide) rfl (by omega) ?_
          refine e_iinc_8 (v := nI (rc - (i + 1))) dX4_addRule_282 rfl (Nat.le_of_ble_eq_true rfl) rfl (by rw [show rc - i = (rc - (i + 1)) + 1 by omega]; exact pk_m1 _) ?_
          refine e_goto (tgt := 260) dX4_addRule_285 (by decide) ?_
          exact e_mem (osL_s (by omega)) ih2
      rcases hac with rfl | rfl
      · refine e_iload_2 dX4_addRule_154 rfl ?_
        refine e_bipush (v := nI 97) dX4_addRule_155 rfl bc_97 ?_
        refine e_nc_ne_f dX4_addRule_157 rfl ⟨164, by decide⟩ (by omega) (by omega) rfl ?_
        refine e_iconst (v := nI 1) dX4_addRule_160 rfl ic_1 ?_
        refine e_goto (tgt := 165) dX4_addRule_161 (by decide) ?_
        exact K0
      · refine e_iload_2 dX4_addRule_154 rfl ?_
        refine e_bipush (v := nI 97) dX4_addRule_155 rfl bc_97 ?_
        refine e_nc_ne_t (tgt := 164) dX4_addRule_157 (by decide) (by omega) (by omega) (by decide) ?_
        refine e_iconst (v := nI 0) dX4_addRule_164 rfl ic_0 ?_
        exact K0
    · refine e_aload_0 dX4_addRule_113 rfl ?_
      refine e_getR dX4_addRule_114 rfl lkX4_28 rfl ps_64 (by decide) (by decide) (mr_of hmr rfl) ?_
      refine e_iload_7 dX4_addRule_117 rfl ?_
      refine e_zald dX4_addRule_119 rfl ps_71 (by decide) rfl (by omega) ?_
      refine e_if_eq_f dX4_addRule_120 rfl ⟨129, by decide⟩ (hs1 q hq) ?_
      refine e_iinc_7 (v := nI (q + 1)) dX4_addRule_123 rfl (Nat.le_of_ble_eq_true rfl) rfl (nI_1 q) ?_
      refine e_goto (tgt := 113) dX4_addRule_126 (by decide) ?_
      exact ih
  refine e_aload_0 dX4_addRule_0 rfl ?_
  refine e_iconst (v := nI 0) dX4_addRule_1 rfl ic_0 ?_
  refine e_putI dX4_addRule_2 rfl lkX4_68 rfl rfl rfl ps_64 (by decide) (by decide) ?_
  refine e_iload_1 dX4_addRule_5 rfl ?_
  refine e_iconst (v := nI 0) dX4_addRule_6 rfl ic_0 ?_
  refine e_aload_0 dX4_addRule_7 rfl ?_
  refine e_getI dX4_addRule_8 rfl lkX4_79 rfl ps_64 (by decide) (by decide) ?_
  refine e_topi (nI rc) hmc ?_
  refine e_callS dX4_addRule_11 rfl csX4_75 (m_in_t (M := cdM M 0) hf (nI_le (Nat.zero_le p) (by omega)) (nI_le hp (by omega))) rfl rfl ⟨Nat.le_of_ble_eq_true rfl, Nat.le_of_ble_eq_true rfl⟩ ⟨Nat.le_of_ble_eq_true rfl, Nat.le_of_ble_eq_true rfl⟩ rfl rfl (Nat.le_of_ble_eq_true rfl) ?_
  refine e_if_eq_f dX4_addRule_14 rfl ⟨61, by decide⟩ (by decide) ?_
  refine e_iload_3 dX4_addRule_17 rfl ?_
  refine e_iconst (v := -1) dX4_addRule_18 rfl ic_m1 ?_
  refine e_aload_0 dX4_addRule_19 rfl ?_
  refine e_getI dX4_addRule_20 rfl lkX4_72 rfl ps_64 (by decide) (by decide) ?_
  refine e_topi (nI oc) hoc ?_
  refine e_iconst (v := nI 1) dX4_addRule_23 rfl ic_1 ?_
  refine e_isub dX4_addRule_24 rfl ?_
  refine e_topi (nI oc - nI 1) rfl ?_
  refine e_callS dX4_addRule_25 rfl csX4_75 (m_in_t (M := cdM M 0) hf (inOb_y hoc8 ha).1 (inOb_y hoc8 ha).2) rfl rfl ⟨Nat.le_of_ble_eq_true rfl, Nat.le_of_ble_eq_true rfl⟩ ⟨Nat.le_of_ble_eq_true rfl, Nat.le_of_ble_eq_true rfl⟩ rfl rfl (Nat.le_of_ble_eq_true rfl) ?_
  refine e_if_eq_f dX4_addRule_28 rfl ⟨61, by decide⟩ (by decide) ?_
  refine e_iload_4 dX4_addRule_31 rfl ?_
  refine e_iconst (v := -1) dX4_addRule_33 rfl ic_m1 ?_
  refine e_aload_0 dX4_addRule_34 rfl ?_
  refine e_getI dX4_addRule_35 rfl lkX4_72 rfl ps_64 (by decide) (by decide) ?_
  refine e_topi (nI oc) hoc ?_
  refine e_iconst (v := nI 1) dX4_addRule_38 rfl ic_1 ?_
  refine e_isub dX4_addRule_39 rfl ?_
  refine e_topi (nI oc - nI 1) rfl ?_
  refine e_callS dX4_addRule_40 rfl csX4_75 (m_in_t (M := cdM M 0) hf (inOb_y hoc8 hb).1 (inOb_y hoc8 hb).2) rfl rfl ⟨Nat.le_of_ble_eq_true rfl, Nat.le_of_ble_eq_true rfl⟩ ⟨Nat.le_of_ble_eq_true rfl, Nat.le_of_ble_eq_true rfl⟩ rfl rfl (Nat.le_of_ble_eq_true rfl) ?_
  refine e_if_eq_f dX4_addRule_43 rfl ⟨61, by decide⟩ (by decide) ?_
  refine e_iload_5 dX4_addRule_46 rfl ?_
  refine e_iconst (v := -1) dX4_addRule_48 rfl ic_m1 ?_
  refine e_aload_0 dX4_addRule_49 rfl ?_
  refine e_getI dX4_addRule_50 rfl lkX4_72 rfl ps_64 (by decide) (by decide) ?_
  refine e_topi (nI oc) hoc ?_
  refine e_iconst (v := nI 1) dX4_addRule_53 rfl ic_1 ?_
  refine e_isub dX4_addRule_54 rfl ?_
  refine e_topi (nI oc - nI 1) rfl ?_
  refine e_callS dX4_addRule_55 rfl csX4_75 (m_in_t (M := cdM M 0) hf (inOb_y hoc8 hc).1 (inOb_y hoc8 hc).2) rfl rfl ⟨Nat.le_of_ble_eq_true rfl, Nat.le_of_ble_eq_true rfl⟩ ⟨Nat.le_of_ble_eq_true rfl, Nat.le_of_ble_eq_true rfl⟩ rfl rfl (Nat.le_of_ble_eq_true rfl) ?_
  refine e_if_ne_t (tgt := 67) dX4_addRule_58 (by decide) (by decide) ?_
  rcases hac with rfl | rfl
  · refine e_iload_2 dX4_addRule_67 rfl ?_
    refine e_bipush (v := nI 97) dX4_addRule_68 rfl bc_97 ?_
    refine e_nc_eq_t (tgt := 79) dX4_addRule_70 (by decide) (by omega) (by omega) rfl ?_
    refine e_iload_6 dX4_addRule_79 rfl ?_
    refine e_iconst (v := nI 0) dX4_addRule_81 rfl ic_0 ?_
    refine e_iconst (v := nI 5) dX4_addRule_82 rfl ic_5 ?_
    refine e_callS dX4_addRule_83 rfl csX4_75 (m_in_t (M := cdM M 0) hf (nI_le (Nat.zero_le ow) (by omega)) (nI_le (show ow ≤ 5 by omega) (by decide))) rfl rfl ⟨Nat.le_of_ble_eq_true rfl, Nat.le_of_ble_eq_true rfl⟩ ⟨Nat.le_of_ble_eq_true rfl, Nat.le_of_ble_eq_true rfl⟩ rfl rfl (Nat.le_of_ble_eq_true rfl) ?_
    refine e_if_ne_t (tgt := 95) dX4_addRule_86 (by decide) (by decide) ?_
    refine e_aload_0 dX4_addRule_95 rfl ?_
    refine e_getI dX4_addRule_96 rfl lkX4_79 rfl ps_64 (by decide) (by decide) ?_
    refine e_topi (nI rc) hmc ?_
    refine e_bipush (v := nI 8) dX4_addRule_99 rfl bc_8 ?_
    refine e_nc_ne_t (tgt := 110) dX4_addRule_101 (by decide) (by omega) (by omega) (by omega) ?_
    exact H
  · refine e_iload_2 dX4_addRule_67 rfl ?_
    refine e_bipush (v := nI 97) dX4_addRule_68 rfl bc_97 ?_
    refine e_nc_eq_f dX4_addRule_70 rfl ⟨79, by decide⟩ (by omega) (by omega) (by decide) ?_
    refine e_iload_2 dX4_addRule_73 rfl ?_
    refine e_bipush (v := nI 100) dX4_addRule_74 rfl bc_100 ?_
    refine e_nc_ne_f dX4_addRule_76 rfl ⟨89, by decide⟩ (by omega) (by omega) rfl ?_
    refine e_iload_6 dX4_addRule_79 rfl ?_
    refine e_iconst (v := nI 0) dX4_addRule_81 rfl ic_0 ?_
    refine e_iconst (v := nI 5) dX4_addRule_82 rfl ic_5 ?_
    refine e_callS dX4_addRule_83 rfl csX4_75 (m_in_t (M := cdM M 0) hf (nI_le (Nat.zero_le ow) (by omega)) (nI_le (show ow ≤ 5 by omega) (by decide))) rfl rfl ⟨Nat.le_of_ble_eq_true rfl, Nat.le_of_ble_eq_true rfl⟩ ⟨Nat.le_of_ble_eq_true rfl, Nat.le_of_ble_eq_true rfl⟩ rfl rfl (Nat.le_of_ble_eq_true rfl) ?_
    refine e_if_ne_t (tgt := 95) dX4_addRule_86 (by decide) (by decide) ?_
    refine e_aload_0 dX4_addRule_95 rfl ?_
    refine e_getI dX4_addRule_96 rfl lkX4_79 rfl ps_64 (by decide) (by decide) ?_
    refine e_topi (nI rc) hmc ?_
    refine e_bipush (v := nI 8) dX4_addRule_99 rfl bc_8 ?_
    refine e_nc_ne_t (tgt := 110) dX4_addRule_101 (by decide) (by omega) (by omega) (by omega) ?_
    exact H
theorem m_addRule_no1 {l : Launch} (hf : l.stackTraces = false) {M : pmM} {od : Nat → Nat} (hmr : M.2.1 = mrC od) {rc : Nat} (hmc : M.1 64 8 = nI rc) (h8 : rc ≤ 8) {x : Int32} (hx : ¬ vp_in x (rc + 1)) {y1 y2 y3 y4 y5 : Int32} : Sp l kX4_addRule 86 2 0 0 [.ref 64, .int x, .int y1, .int y2, .int y3, .int y4, .int y5] M (.inl (some (.int (nI 0)))) (cdM (cdM M 0) 1) := by
  refine sp_of hf (by decide +kernel) (Nat.le_of_ble_eq_true rfl) (by intro v hv; simp at hv; rcases hv with rfl | rfl | rfl | rfl | rfl | rfl | rfl <;> rfl) rfl ?_
  refine e_aload_0 dX4_addRule_0 rfl ?_
  refine e_iconst (v := nI 0) dX4_addRule_1 rfl ic_0 ?_
  refine e_putI dX4_addRule_2 rfl lkX4_68 rfl rfl rfl ps_64 (by decide) (by decide) ?_
  refine e_iload_1 dX4_addRule_5 rfl ?_
  refine e_iconst (v := nI 0) dX4_addRule_6 rfl ic_0 ?_
  refine e_aload_0 dX4_addRule_7 rfl ?_
  refine e_getI dX4_addRule_8 rfl lkX4_79 rfl ps_64 (by decide) (by decide) ?_
  refine e_topi (nI rc) hmc ?_
  refine e_callS dX4_addRule_11 rfl csX4_75 (m_in_f (M := cdM M 0) hf (fun q => inE_n hx (by omega) ⟨q.1, by rw [pk_sub (by omega)]; exact q.2⟩)) rfl rfl ⟨Nat.le_of_ble_eq_true rfl, Nat.le_of_ble_eq_true rfl⟩ ⟨Nat.le_of_ble_eq_true rfl, Nat.le_of_ble_eq_true rfl⟩ rfl rfl (Nat.le_of_ble_eq_true rfl) ?_
  refine e_if_eq_t (tgt := 61) dX4_addRule_14 (by decide) (by decide) ?_
  refine e_aload_0 dX4_addRule_61 rfl ?_
  refine e_iconst (v := nI 1) dX4_addRule_62 rfl ic_1 ?_
  refine e_callV dX4_addRule_63 rfl csX4_90 (m_fails (M := (cdM M 0)) (k := 1) hf hmr) rfl rfl ps_64 (by decide) (by decide) ⟨Nat.le_of_ble_eq_true rfl, Nat.le_of_ble_eq_true rfl⟩ ⟨Nat.le_of_ble_eq_true rfl, Nat.le_of_ble_eq_true rfl⟩ rfl rfl (Nat.le_of_ble_eq_true rfl) ?_
  exact e_iret dX4_addRule_66 rfl rfl (Nat.le_of_ble_eq_true rfl) (Nat.le_of_ble_eq_true rfl) rfl rfl
theorem m_addRule_no2 {l : Launch} (hf : l.stackTraces = false) {M : pmM} {od : Nat → Nat} (hmr : M.2.1 = mrC od) {rc : Nat} (hmc : M.1 64 8 = nI rc) (h8 : rc ≤ 8) {oc : Nat} (hoc : M.1 64 2 = nI oc) (hoc8 : oc ≤ 8) {p : Nat} (hp : p ≤ rc) {a b c : Int32} (hx : ¬ (obOk oc a ∧ obOk oc b ∧ obOk oc c)) {y1 y2 : Int32} : Sp l kX4_addRule 86 2 0 0 [.ref 64, .int (nI p), .int y1, .int a, .int b, .int c, .int y2] M (.inl (some (.int (nI 0)))) (cdM (cdM M 0) 1) := by
  refine sp_of hf (by decide +kernel) (Nat.le_of_ble_eq_true rfl) (by intro v hv; simp at hv; rcases hv with rfl | rfl | rfl | rfl | rfl | rfl | rfl <;> rfl) rfl ?_
  by_cases ha : obOk oc a
  · by_cases hb : obOk oc b
    · have hc : ¬ obOk oc c := fun h => hx ⟨ha, hb, h⟩
      refine e_aload_0 dX4_addRule_0 rfl ?_
      refine e_iconst (v := nI 0) dX4_addRule_1 rfl ic_0 ?_
      refine e_putI dX4_addRule_2 rfl lkX4_68 rfl rfl rfl ps_64 (by decide) (by decide) ?_
      refine e_iload_1 dX4_addRule_5 rfl ?_
      refine e_iconst (v := nI 0) dX4_addRule_6 rfl ic_0 ?_
      refine e_aload_0 dX4_addRule_7 rfl ?_
      refine e_getI dX4_addRule_8 rfl lkX4_79 rfl ps_64 (by decide) (by decide) ?_
      refine e_topi (nI rc) hmc ?_
      refine e_callS dX4_addRule_11 rfl csX4_75 (m_in_t (M := cdM M 0) hf (nI_le (Nat.zero_le p) (by omega)) (nI_le hp (by omega))) rfl rfl ⟨Nat.le_of_ble_eq_true rfl, Nat.le_of_ble_eq_true rfl⟩ ⟨Nat.le_of_ble_eq_true rfl, Nat.le_of_ble_eq_true rfl⟩ rfl rfl (Nat.le_of_ble_eq_true rfl) ?_
      refine e_if_eq_f dX4_addRule_14 rfl ⟨61, by decide⟩ (by decide) ?_
      refine e_iload_3 dX4_addRule_17 rfl ?_
      refine e_iconst (v := -1) dX4_addRule_18 rfl ic_m1 ?_
      refine e_aload_0 dX4_addRule_19 rfl ?_
      refine e_getI dX4_addRule_20 rfl lkX4_72 rfl ps_64 (by decide) (by decide) ?_
      refine e_topi (nI oc) hoc ?_
      refine e_iconst (v := nI 1) dX4_addRule_23 rfl ic_1 ?_
      refine e_isub dX4_addRule_24 rfl ?_
      refine e_topi (nI oc - nI 1) rfl ?_
      refine e_callS dX4_addRule_25 rfl csX4_75 (m_in_t (M := cdM M 0) hf (inOb_y hoc8 ha).1 (inOb_y hoc8 ha).2) rfl rfl ⟨Nat.le_of_ble_eq_true rfl, Nat.le_of_ble_eq_true rfl⟩ ⟨Nat.le_of_ble_eq_true rfl, Nat.le_of_ble_eq_true rfl⟩ rfl rfl (Nat.le_of_ble_eq_true rfl) ?_
      refine e_if_eq_f dX4_addRule_28 rfl ⟨61, by decide⟩ (by decide) ?_
      refine e_iload_4 dX4_addRule_31 rfl ?_
      refine e_iconst (v := -1) dX4_addRule_33 rfl ic_m1 ?_
      refine e_aload_0 dX4_addRule_34 rfl ?_
      refine e_getI dX4_addRule_35 rfl lkX4_72 rfl ps_64 (by decide) (by decide) ?_
      refine e_topi (nI oc) hoc ?_
      refine e_iconst (v := nI 1) dX4_addRule_38 rfl ic_1 ?_
      refine e_isub dX4_addRule_39 rfl ?_
      refine e_topi (nI oc - nI 1) rfl ?_
      refine e_callS dX4_addRule_40 rfl csX4_75 (m_in_t (M := cdM M 0) hf (inOb_y hoc8 hb).1 (inOb_y hoc8 hb).2) rfl rfl ⟨Nat.le_of_ble_eq_true rfl, Nat.le_of_ble_eq_true rfl⟩ ⟨Nat.le_of_ble_eq_true rfl, Nat.le_of_ble_eq_true rfl⟩ rfl rfl (Nat.le_of_ble_eq_true rfl) ?_
      refine e_if_eq_f dX4_addRule_43 rfl ⟨61, by decide⟩ (by decide) ?_
      refine e_iload_5 dX4_addRule_46 rfl ?_
      refine e_iconst (v := -1) dX4_addRule_48 rfl ic_m1 ?_
      refine e_aload_0 dX4_addRule_49 rfl ?_
      refine e_getI dX4_addRule_50 rfl lkX4_72 rfl ps_64 (by decide) (by decide) ?_
      refine e_topi (nI oc) hoc ?_
      refine e_iconst (v := nI 1) dX4_addRule_53 rfl ic_1 ?_
      refine e_isub dX4_addRule_54 rfl ?_
      refine e_topi (nI oc - nI 1) rfl ?_
      refine e_callS dX4_addRule_55 rfl csX4_75 (m_in_f (M := cdM M 0) hf (inOb_n hoc8 hc)) rfl rfl ⟨Nat.le_of_ble_eq_true rfl, Nat.le_of_ble_eq_true rfl⟩ ⟨Nat.le_of_ble_eq_true rfl, Nat.le_of_ble_eq_true rfl⟩ rfl rfl (Nat.le_of_ble_eq_true rfl) ?_
      refine e_if_ne_f dX4_addRule_58 rfl ⟨67, by decide⟩ (by decide) ?_
      refine e_aload_0 dX4_addRule_61 rfl ?_
      refine e_iconst (v := nI 1) dX4_addRule_62 rfl ic_1 ?_
      refine e_callV dX4_addRule_63 rfl csX4_90 (m_fails (M := (cdM M 0)) (k := 1) hf hmr) rfl rfl ps_64 (by decide) (by decide) ⟨Nat.le_of_ble_eq_true rfl, Nat.le_of_ble_eq_true rfl⟩ ⟨Nat.le_of_ble_eq_true rfl, Nat.le_of_ble_eq_true rfl⟩ rfl rfl (Nat.le_of_ble_eq_true rfl) ?_
      exact e_iret dX4_addRule_66 rfl rfl (Nat.le_of_ble_eq_true rfl) (Nat.le_of_ble_eq_true rfl) rfl rfl
    · refine e_aload_0 dX4_addRule_0 rfl ?_
      refine e_iconst (v := nI 0) dX4_addRule_1 rfl ic_0 ?_
      refine e_putI dX4_addRule_2 rfl lkX4_68 rfl rfl rfl ps_64 (by decide) (by decide) ?_
      refine e_iload_1 dX4_addRule_5 rfl ?_
      refine e_iconst (v := nI 0) dX4_addRule_6 rfl ic_0 ?_
      refine e_aload_0 dX4_addRule_7 rfl ?_
      refine e_getI dX4_addRule_8 rfl lkX4_79 rfl ps_64 (by decide) (by decide) ?_
      refine e_topi (nI rc) hmc ?_
      refine e_callS dX4_addRule_11 rfl csX4_75 (m_in_t (M := cdM M 0) hf (nI_le (Nat.zero_le p) (by omega)) (nI_le hp (by omega))) rfl rfl ⟨Nat.le_of_ble_eq_true rfl, Nat.le_of_ble_eq_true rfl⟩ ⟨Nat.le_of_ble_eq_true rfl, Nat.le_of_ble_eq_true rfl⟩ rfl rfl (Nat.le_of_ble_eq_true rfl) ?_
      refine e_if_eq_f dX4_addRule_14 rfl ⟨61, by decide⟩ (by decide) ?_
      refine e_iload_3 dX4_addRule_17 rfl ?_
      refine e_iconst (v := -1) dX4_addRule_18 rfl ic_m1 ?_
      refine e_aload_0 dX4_addRule_19 rfl ?_
      refine e_getI dX4_addRule_20 rfl lkX4_72 rfl ps_64 (by decide) (by decide) ?_
      refine e_topi (nI oc) hoc ?_
      refine e_iconst (v := nI 1) dX4_addRule_23 rfl ic_1 ?_
      refine e_isub dX4_addRule_24 rfl ?_
      refine e_topi (nI oc - nI 1) rfl ?_
      refine e_callS dX4_addRule_25 rfl csX4_75 (m_in_t (M := cdM M 0) hf (inOb_y hoc8 ha).1 (inOb_y hoc8 ha).2) rfl rfl ⟨Nat.le_of_ble_eq_true rfl, Nat.le_of_ble_eq_true rfl⟩ ⟨Nat.le_of_ble_eq_true rfl, Nat.le_of_ble_eq_true rfl⟩ rfl rfl (Nat.le_of_ble_eq_true rfl) ?_
      refine e_if_eq_f dX4_addRule_28 rfl ⟨61, by decide⟩ (by decide) ?_
      refine e_iload_4 dX4_addRule_31 rfl ?_
      refine e_iconst (v := -1) dX4_addRule_33 rfl ic_m1 ?_
      refine e_aload_0 dX4_addRule_34 rfl ?_
      refine e_getI dX4_addRule_35 rfl lkX4_72 rfl ps_64 (by decide) (by decide) ?_
      refine e_topi (nI oc) hoc ?_
      refine e_iconst (v := nI 1) dX4_addRule_38 rfl ic_1 ?_
      refine e_isub dX4_addRule_39 rfl ?_
      refine e_topi (nI oc - nI 1) rfl ?_
      refine e_callS dX4_addRule_40 rfl csX4_75 (m_in_f (M := cdM M 0) hf (inOb_n hoc8 hb)) rfl rfl ⟨Nat.le_of_ble_eq_true rfl, Nat.le_of_ble_eq_true rfl⟩ ⟨Nat.le_of_ble_eq_true rfl, Nat.le_of_ble_eq_true rfl⟩ rfl rfl (Nat.le_of_ble_eq_true rfl) ?_
      refine e_if_eq_t (tgt := 61) dX4_addRule_43 (by decide) (by decide) ?_
      refine e_aload_0 dX4_addRule_61 rfl ?_
      refine e_iconst (v := nI 1) dX4_addRule_62 rfl ic_1 ?_
      refine e_callV dX4_addRule_63 rfl csX4_90 (m_fails (M := (cdM M 0)) (k := 1) hf hmr) rfl rfl ps_64 (by decide) (by decide) ⟨Nat.le_of_ble_eq_true rfl, Nat.le_of_ble_eq_true rfl⟩ ⟨Nat.le_of_ble_eq_true rfl, Nat.le_of_ble_eq_true rfl⟩ rfl rfl (Nat.le_of_ble_eq_true rfl) ?_
      exact e_iret dX4_addRule_66 rfl rfl (Nat.le_of_ble_eq_true rfl) (Nat.le_of_ble_eq_true rfl) rfl rfl
  · refine e_aload_0 dX4_addRule_0 rfl ?_
    refine e_iconst (v := nI 0) dX4_addRule_1 rfl ic_0 ?_
    refine e_putI dX4_addRule_2 rfl lkX4_68 rfl rfl rfl ps_64 (by decide) (by decide) ?_
    refine e_iload_1 dX4_addRule_5 rfl ?_
    refine e_iconst (v := nI 0) dX4_addRule_6 rfl ic_0 ?_
    refine e_aload_0 dX4_addRule_7 rfl ?_
    refine e_getI dX4_addRule_8 rfl lkX4_79 rfl ps_64 (by decide) (by decide) ?_
    refine e_topi (nI rc) hmc ?_
    refine e_callS dX4_addRule_11 rfl csX4_75 (m_in_t (M := cdM M 0) hf (nI_le (Nat.zero_le p) (by omega)) (nI_le hp (by omega))) rfl rfl ⟨Nat.le_of_ble_eq_true rfl, Nat.le_of_ble_eq_true rfl⟩ ⟨Nat.le_of_ble_eq_true rfl, Nat.le_of_ble_eq_true rfl⟩ rfl rfl (Nat.le_of_ble_eq_true rfl) ?_
    refine e_if_eq_f dX4_addRule_14 rfl ⟨61, by decide⟩ (by decide) ?_
    refine e_iload_3 dX4_addRule_17 rfl ?_
    refine e_iconst (v := -1) dX4_addRule_18 rfl ic_m1 ?_
    refine e_aload_0 dX4_addRule_19 rfl ?_
    refine e_getI dX4_addRule_20 rfl lkX4_72 rfl ps_64 (by decide) (by decide) ?_
    refine e_topi (nI oc) hoc ?_
    refine e_iconst (v := nI 1) dX4_addRule_23 rfl ic_1 ?_
    refine e_isub dX4_addRule_24 rfl ?_
    refine e_topi (nI oc - nI 1) rfl ?_
    refine e_callS dX4_addRule_25 rfl csX4_75 (m_in_f (M := cdM M 0) hf (inOb_n hoc8 ha)) rfl rfl ⟨Nat.le_of_ble_eq_true rfl, Nat.le_of_ble_eq_true rfl⟩ ⟨Nat.le_of_ble_eq_true rfl, Nat.le_of_ble_eq_true rfl⟩ rfl rfl (Nat.le_of_ble_eq_true rfl) ?_
    refine e_if_eq_t (tgt := 61) dX4_addRule_28 (by decide) (by decide) ?_
    refine e_aload_0 dX4_addRule_61 rfl ?_
    refine e_iconst (v := nI 1) dX4_addRule_62 rfl ic_1 ?_
    refine e_callV dX4_addRule_63 rfl csX4_90 (m_fails (M := (cdM M 0)) (k := 1) hf hmr) rfl rfl ps_64 (by decide) (by decide) ⟨Nat.le_of_ble_eq_true rfl, Nat.le_of_ble_eq_true rfl⟩ ⟨Nat.le_of_ble_eq_true rfl, Nat.le_of_ble_eq_true rfl⟩ rfl rfl (Nat.le_of_ble_eq_true rfl) ?_
    exact e_iret dX4_addRule_66 rfl rfl (Nat.le_of_ble_eq_true rfl) (Nat.le_of_ble_eq_true rfl) rfl rfl
theorem m_addRule_no3 {l : Launch} (hf : l.stackTraces = false) {M : pmM} {od : Nat → Nat} (hmr : M.2.1 = mrC od) {rc : Nat} (hmc : M.1 64 8 = nI rc) (h8 : rc ≤ 8) {oc : Nat} (hoc : M.1 64 2 = nI oc) (hoc8 : oc ≤ 8) {p : Nat} (hp : p ≤ rc) {a b c : Int32} (ha : obOk oc a) (hb : obOk oc b) (hc : obOk oc c) {ac : Int32} (h1 : ac ≠ nI 97) (h2 : ac ≠ nI 100) {y2 : Int32} : Sp l kX4_addRule 86 2 0 0 [.ref 64, .int (nI p), .int ac, .int a, .int b, .int c, .int y2] M (.inl (some (.int (nI 0)))) (cdM (cdM M 0) 2) := by
  refine sp_of hf (by decide +kernel) (Nat.le_of_ble_eq_true rfl) (by intro v hv; simp at hv; rcases hv with rfl | rfl | rfl | rfl | rfl | rfl | rfl <;> rfl) rfl ?_
  refine e_aload_0 dX4_addRule_0 rfl ?_
  refine e_iconst (v := nI 0) dX4_addRule_1 rfl ic_0 ?_
  refine e_putI dX4_addRule_2 rfl lkX4_68 rfl rfl rfl ps_64 (by decide) (by decide) ?_
  refine e_iload_1 dX4_addRule_5 rfl ?_
  refine e_iconst (v := nI 0) dX4_addRule_6 rfl ic_0 ?_
  refine e_aload_0 dX4_addRule_7 rfl ?_
  refine e_getI dX4_addRule_8 rfl lkX4_79 rfl ps_64 (by decide) (by decide) ?_
  refine e_topi (nI rc) hmc ?_
  refine e_callS dX4_addRule_11 rfl csX4_75 (m_in_t (M := cdM M 0) hf (nI_le (Nat.zero_le p) (by omega)) (nI_le hp (by omega))) rfl rfl ⟨Nat.le_of_ble_eq_true rfl, Nat.le_of_ble_eq_true rfl⟩ ⟨Nat.le_of_ble_eq_true rfl, Nat.le_of_ble_eq_true rfl⟩ rfl rfl (Nat.le_of_ble_eq_true rfl) ?_
  refine e_if_eq_f dX4_addRule_14 rfl ⟨61, by decide⟩ (by decide) ?_
  refine e_iload_3 dX4_addRule_17 rfl ?_
  refine e_iconst (v := -1) dX4_addRule_18 rfl ic_m1 ?_
  refine e_aload_0 dX4_addRule_19 rfl ?_
  refine e_getI dX4_addRule_20 rfl lkX4_72 rfl ps_64 (by decide) (by decide) ?_
  refine e_topi (nI oc) hoc ?_
  refine e_iconst (v := nI 1) dX4_addRule_23 rfl ic_1 ?_
  refine e_isub dX4_addRule_24 rfl ?_
  refine e_topi (nI oc - nI 1) rfl ?_
  refine e_callS dX4_addRule_25 rfl csX4_75 (m_in_t (M := cdM M 0) hf (inOb_y hoc8 ha).1 (inOb_y hoc8 ha).2) rfl rfl ⟨Nat.le_of_ble_eq_true rfl, Nat.le_of_ble_eq_true rfl⟩ ⟨Nat.le_of_ble_eq_true rfl, Nat.le_of_ble_eq_true rfl⟩ rfl rfl (Nat.le_of_ble_eq_true rfl) ?_
  refine e_if_eq_f dX4_addRule_28 rfl ⟨61, by decide⟩ (by decide) ?_
  refine e_iload_4 dX4_addRule_31 rfl ?_
  refine e_iconst (v := -1) dX4_addRule_33 rfl ic_m1 ?_
  refine e_aload_0 dX4_addRule_34 rfl ?_
  refine e_getI dX4_addRule_35 rfl lkX4_72 rfl ps_64 (by decide) (by decide) ?_
  refine e_topi (nI oc) hoc ?_
  refine e_iconst (v := nI 1) dX4_addRule_38 rfl ic_1 ?_
  refine e_isub dX4_addRule_39 rfl ?_
  refine e_topi (nI oc - nI 1) rfl ?_
  refine e_callS dX4_addRule_40 rfl csX4_75 (m_in_t (M := cdM M 0) hf (inOb_y hoc8 hb).1 (inOb_y hoc8 hb).2) rfl rfl ⟨Nat.le_of_ble_eq_true rfl, Nat.le_of_ble_eq_true rfl⟩ ⟨Nat.le_of_ble_eq_true rfl, Nat.le_of_ble_eq_true rfl⟩ rfl rfl (Nat.le_of_ble_eq_true rfl) ?_
  refine e_if_eq_f dX4_addRule_43 rfl ⟨61, by decide⟩ (by decide) ?_
  refine e_iload_5 dX4_addRule_46 rfl ?_
  refine e_iconst (v := -1) dX4_addRule_48 rfl ic_m1 ?_
  refine e_aload_0 dX4_addRule_49 rfl ?_
  refine e_getI dX4_addRule_50 rfl lkX4_72 rfl ps_64 (by decide) (by decide) ?_
  refine e_topi (nI oc) hoc ?_
  refine e_iconst (v := nI 1) dX4_addRule_53 rfl ic_1 ?_
  refine e_isub dX4_addRule_54 rfl ?_
  refine e_topi (nI oc - nI 1) rfl ?_
  refine e_callS dX4_addRule_55 rfl csX4_75 (m_in_t (M := cdM M 0) hf (inOb_y hoc8 hc).1 (inOb_y hoc8 hc).2) rfl rfl ⟨Nat.le_of_ble_eq_true rfl, Nat.le_of_ble_eq_true rfl⟩ ⟨Nat.le_of_ble_eq_true rfl, Nat.le_of_ble_eq_true rfl⟩ rfl rfl (Nat.le_of_ble_eq_true rfl) ?_
  refine e_if_ne_t (tgt := 67) dX4_addRule_58 (by decide) (by decide) ?_
  refine e_iload_2 dX4_addRule_67 rfl ?_
  refine e_bipush (v := nI 97) dX4_addRule_68 rfl bc_97 ?_
  refine e_ic_eq_f dX4_addRule_70 rfl ⟨79, by decide⟩ h1 ?_
  refine e_iload_2 dX4_addRule_73 rfl ?_
  refine e_bipush (v := nI 100) dX4_addRule_74 rfl bc_100 ?_
  refine e_ic_ne_t (tgt := 89) dX4_addRule_76 (by decide) h2 ?_
  refine e_aload_0 dX4_addRule_89 rfl ?_
  refine e_iconst (v := nI 2) dX4_addRule_90 rfl ic_2 ?_
  refine e_callV dX4_addRule_91 rfl csX4_90 (m_fails (M := (cdM M 0)) (k := 2) hf hmr) rfl rfl ps_64 (by decide) (by decide) ⟨Nat.le_of_ble_eq_true rfl, Nat.le_of_ble_eq_true rfl⟩ ⟨Nat.le_of_ble_eq_true rfl, Nat.le_of_ble_eq_true rfl⟩ rfl rfl (Nat.le_of_ble_eq_true rfl) ?_
  exact e_iret dX4_addRule_94 rfl rfl (Nat.le_of_ble_eq_true rfl) (Nat.le_of_ble_eq_true rfl) rfl rfl
theorem m_addRule_no4 {l : Launch} (hf : l.stackTraces = false) {M : pmM} {od : Nat → Nat} (hmr : M.2.1 = mrC od) {rc : Nat} (hmc : M.1 64 8 = nI rc) (h8 : rc ≤ 8) {oc : Nat} (hoc : M.1 64 2 = nI oc) (hoc8 : oc ≤ 8) {p : Nat} (hp : p ≤ rc) {a b c : Int32} (ha : obOk oc a) (hb : obOk oc b) (hc : obOk oc c) {ac : Int32} (hac : ac = nI 97 ∨ ac = nI 100) {y2 : Int32} (hx : ¬ vp_in y2 6) : Sp l kX4_addRule 86 2 0 0 [.ref 64, .int (nI p), .int ac, .int a, .int b, .int c, .int y2] M (.inl (some (.int (nI 0)))) (cdM (cdM M 0) 2) := by
  refine sp_of hf (by decide +kernel) (Nat.le_of_ble_eq_true rfl) (by intro v hv; simp at hv; rcases hv with rfl | rfl | rfl | rfl | rfl | rfl | rfl <;> rfl) rfl ?_
  refine e_aload_0 dX4_addRule_0 rfl ?_
  refine e_iconst (v := nI 0) dX4_addRule_1 rfl ic_0 ?_
  refine e_putI dX4_addRule_2 rfl lkX4_68 rfl rfl rfl ps_64 (by decide) (by decide) ?_
  refine e_iload_1 dX4_addRule_5 rfl ?_
  refine e_iconst (v := nI 0) dX4_addRule_6 rfl ic_0 ?_
  refine e_aload_0 dX4_addRule_7 rfl ?_
  refine e_getI dX4_addRule_8 rfl lkX4_79 rfl ps_64 (by decide) (by decide) ?_
  refine e_topi (nI rc) hmc ?_
  refine e_callS dX4_addRule_11 rfl csX4_75 (m_in_t (M := cdM M 0) hf (nI_le (Nat.zero_le p) (by omega)) (nI_le hp (by omega))) rfl rfl ⟨Nat.le_of_ble_eq_true rfl, Nat.le_of_ble_eq_true rfl⟩ ⟨Nat.le_of_ble_eq_true rfl, Nat.le_of_ble_eq_true rfl⟩ rfl rfl (Nat.le_of_ble_eq_true rfl) ?_
  refine e_if_eq_f dX4_addRule_14 rfl ⟨61, by decide⟩ (by decide) ?_
  refine e_iload_3 dX4_addRule_17 rfl ?_
  refine e_iconst (v := -1) dX4_addRule_18 rfl ic_m1 ?_
  refine e_aload_0 dX4_addRule_19 rfl ?_
  refine e_getI dX4_addRule_20 rfl lkX4_72 rfl ps_64 (by decide) (by decide) ?_
  refine e_topi (nI oc) hoc ?_
  refine e_iconst (v := nI 1) dX4_addRule_23 rfl ic_1 ?_
  refine e_isub dX4_addRule_24 rfl ?_
  refine e_topi (nI oc - nI 1) rfl ?_
  refine e_callS dX4_addRule_25 rfl csX4_75 (m_in_t (M := cdM M 0) hf (inOb_y hoc8 ha).1 (inOb_y hoc8 ha).2) rfl rfl ⟨Nat.le_of_ble_eq_true rfl, Nat.le_of_ble_eq_true rfl⟩ ⟨Nat.le_of_ble_eq_true rfl, Nat.le_of_ble_eq_true rfl⟩ rfl rfl (Nat.le_of_ble_eq_true rfl) ?_
  refine e_if_eq_f dX4_addRule_28 rfl ⟨61, by decide⟩ (by decide) ?_
  refine e_iload_4 dX4_addRule_31 rfl ?_
  refine e_iconst (v := -1) dX4_addRule_33 rfl ic_m1 ?_
  refine e_aload_0 dX4_addRule_34 rfl ?_
  refine e_getI dX4_addRule_35 rfl lkX4_72 rfl ps_64 (by decide) (by decide) ?_
  refine e_topi (nI oc) hoc ?_
  refine e_iconst (v := nI 1) dX4_addRule_38 rfl ic_1 ?_
  refine e_isub dX4_addRule_39 rfl ?_
  refine e_topi (nI oc - nI 1) rfl ?_
  refine e_callS dX4_addRule_40 rfl csX4_75 (m_in_t (M := cdM M 0) hf (inOb_y hoc8 hb).1 (inOb_y hoc8 hb).2) rfl rfl ⟨Nat.le_of_ble_eq_true rfl, Nat.le_of_ble_eq_true rfl⟩ ⟨Nat.le_of_ble_eq_true rfl, Nat.le_of_ble_eq_true rfl⟩ rfl rfl (Nat.le_of_ble_eq_true rfl) ?_
  refine e_if_eq_f dX4_addRule_43 rfl ⟨61, by decide⟩ (by decide) ?_
  refine e_iload_5 dX4_addRule_46 rfl ?_
  refine e_iconst (v := -1) dX4_addRule_48 rfl ic_m1 ?_
  refine e_aload_0 dX4_addRule_49 rfl ?_
  refine e_getI dX4_addRule_50 rfl lkX4_72 rfl ps_64 (by decide) (by decide) ?_
  refine e_topi (nI oc) hoc ?_
  refine e_iconst (v := nI 1) dX4_addRule_53 rfl ic_1 ?_
  refine e_isub dX4_addRule_54 rfl ?_
  refine e_topi (nI oc - nI 1) rfl ?_
  refine e_callS dX4_addRule_55 rfl csX4_75 (m_in_t (M := cdM M 0) hf (inOb_y hoc8 hc).1 (inOb_y hoc8 hc).2) rfl rfl ⟨Nat.le_of_ble_eq_true rfl, Nat.le_of_ble_eq_true rfl⟩ ⟨Nat.le_of_ble_eq_true rfl, Nat.le_of_ble_eq_true rfl⟩ rfl rfl (Nat.le_of_ble_eq_true rfl) ?_
  refine e_if_ne_t (tgt := 67) dX4_addRule_58 (by decide) (by decide) ?_
  rcases hac with rfl | rfl
  · refine e_iload_2 dX4_addRule_67 rfl ?_
    refine e_bipush (v := nI 97) dX4_addRule_68 rfl bc_97 ?_
    refine e_nc_eq_t (tgt := 79) dX4_addRule_70 (by decide) (by omega) (by omega) rfl ?_
    refine e_iload_6 dX4_addRule_79 rfl ?_
    refine e_iconst (v := nI 0) dX4_addRule_81 rfl ic_0 ?_
    refine e_iconst (v := nI 5) dX4_addRule_82 rfl ic_5 ?_
    refine e_callS dX4_addRule_83 rfl csX4_75 (m_in_f (M := cdM M 0) hf (fun q => inE_n hx (by decide) ⟨q.1, by rw [pk_sub (by decide)]; exact q.2⟩)) rfl rfl ⟨Nat.le_of_ble_eq_true rfl, Nat.le_of_ble_eq_true rfl⟩ ⟨Nat.le_of_ble_eq_true rfl, Nat.le_of_ble_eq_true rfl⟩ rfl rfl (Nat.le_of_ble_eq_true rfl) ?_
    refine e_if_ne_f dX4_addRule_86 rfl ⟨95, by decide⟩ (by decide) ?_
    refine e_aload_0 dX4_addRule_89 rfl ?_
    refine e_iconst (v := nI 2) dX4_addRule_90 rfl ic_2 ?_
    refine e_callV dX4_addRule_91 rfl csX4_90 (m_fails (M := (cdM M 0)) (k := 2) hf hmr) rfl rfl ps_64 (by decide) (by decide) ⟨Nat.le_of_ble_eq_true rfl, Nat.le_of_ble_eq_true rfl⟩ ⟨Nat.le_of_ble_eq_true rfl, Nat.le_of_ble_eq_true rfl⟩ rfl rfl (Nat.le_of_ble_eq_true rfl) ?_
    exact e_iret dX4_addRule_94 rfl rfl (Nat.le_of_ble_eq_true rfl) (Nat.le_of_ble_eq_true rfl) rfl rfl
  · refine e_iload_2 dX4_addRule_67 rfl ?_
    refine e_bipush (v := nI 97) dX4_addRule_68 rfl bc_97 ?_
    refine e_nc_eq_f dX4_addRule_70 rfl ⟨79, by decide⟩ (by omega) (by omega) (by decide) ?_
    refine e_iload_2 dX4_addRule_73 rfl ?_
    refine e_bipush (v := nI 100) dX4_addRule_74 rfl bc_100 ?_
    refine e_nc_ne_f dX4_addRule_76 rfl ⟨89, by decide⟩ (by omega) (by omega) rfl ?_
    refine e_iload_6 dX4_addRule_79 rfl ?_
    refine e_iconst (v := nI 0) dX4_addRule_81 rfl ic_0 ?_
    refine e_iconst (v := nI 5) dX4_addRule_82 rfl ic_5 ?_
    refine e_callS dX4_addRule_83 rfl csX4_75 (m_in_f (M := cdM M 0) hf (fun q => inE_n hx (by decide) ⟨q.1, by rw [pk_sub (by decide)]; exact q.2⟩)) rfl rfl ⟨Nat.le_of_ble_eq_true rfl, Nat.le_of_ble_eq_true rfl⟩ ⟨Nat.le_of_ble_eq_true rfl, Nat.le_of_ble_eq_true rfl⟩ rfl rfl (Nat.le_of_ble_eq_true rfl) ?_
    refine e_if_ne_f dX4_addRule_86 rfl ⟨95, by decide⟩ (by decide) ?_
    refine e_aload_0 dX4_addRule_89 rfl ?_
    refine e_iconst (v := nI 2) dX4_addRule_90 rfl ic_2 ?_
    refine e_callV dX4_addRule_91 rfl csX4_90 (m_fails (M := (cdM M 0)) (k := 2) hf hmr) rfl rfl ps_64 (by decide) (by decide) ⟨Nat.le_of_ble_eq_true rfl, Nat.le_of_ble_eq_true rfl⟩ ⟨Nat.le_of_ble_eq_true rfl, Nat.le_of_ble_eq_true rfl⟩ rfl rfl (Nat.le_of_ble_eq_true rfl) ?_
    exact e_iret dX4_addRule_94 rfl rfl (Nat.le_of_ble_eq_true rfl) (Nat.le_of_ble_eq_true rfl) rfl rfl
theorem m_addRule_no5 {l : Launch} (hf : l.stackTraces = false) {M : pmM} {od : Nat → Nat} (hmr : M.2.1 = mrC od) (hmc : M.1 64 8 = nI 8) {oc : Nat} (hoc : M.1 64 2 = nI oc) (hoc8 : oc ≤ 8) {p : Nat} (hp : p ≤ 8) {a b c : Int32} (ha : obOk oc a) (hb : obOk oc b) (hc : obOk oc c) {ac : Int32} (hac : ac = nI 97 ∨ ac = nI 100) {ow : Nat} (how : ow < 6) : Sp l kX4_addRule 86 2 0 0 [.ref 64, .int (nI p), .int ac, .int a, .int b, .int c, .int (nI ow)] M (.inl (some (.int (nI 0)))) (cdM (cdM M 0) 3) := by
  refine sp_of hf (by decide +kernel) (Nat.le_of_ble_eq_true rfl) (by intro v hv; simp at hv; rcases hv with rfl | rfl | rfl | rfl | rfl | rfl | rfl <;> rfl) rfl ?_
  refine e_aload_0 dX4_addRule_0 rfl ?_
  refine e_iconst (v := nI 0) dX4_addRule_1 rfl ic_0 ?_
  refine e_putI dX4_addRule_2 rfl lkX4_68 rfl rfl rfl ps_64 (by decide) (by decide) ?_
  refine e_iload_1 dX4_addRule_5 rfl ?_
  refine e_iconst (v := nI 0) dX4_addRule_6 rfl ic_0 ?_
  refine e_aload_0 dX4_addRule_7 rfl ?_
  refine e_getI dX4_addRule_8 rfl lkX4_79 rfl ps_64 (by decide) (by decide) ?_
  refine e_topi (nI 8) hmc ?_
  refine e_callS dX4_addRule_11 rfl csX4_75 (m_in_t (M := cdM M 0) hf (nI_le (Nat.zero_le p) (by omega)) (nI_le hp (by omega))) rfl rfl ⟨Nat.le_of_ble_eq_true rfl, Nat.le_of_ble_eq_true rfl⟩ ⟨Nat.le_of_ble_eq_true rfl, Nat.le_of_ble_eq_true rfl⟩ rfl rfl (Nat.le_of_ble_eq_true rfl) ?_
  refine e_if_eq_f dX4_addRule_14 rfl ⟨61, by decide⟩ (by decide) ?_
  refine e_iload_3 dX4_addRule_17 rfl ?_
  refine e_iconst (v := -1) dX4_addRule_18 rfl ic_m1 ?_
  refine e_aload_0 dX4_addRule_19 rfl ?_
  refine e_getI dX4_addRule_20 rfl lkX4_72 rfl ps_64 (by decide) (by decide) ?_
  refine e_topi (nI oc) hoc ?_
  refine e_iconst (v := nI 1) dX4_addRule_23 rfl ic_1 ?_
  refine e_isub dX4_addRule_24 rfl ?_
  refine e_topi (nI oc - nI 1) rfl ?_
  refine e_callS dX4_addRule_25 rfl csX4_75 (m_in_t (M := cdM M 0) hf (inOb_y hoc8 ha).1 (inOb_y hoc8 ha).2) rfl rfl ⟨Nat.le_of_ble_eq_true rfl, Nat.le_of_ble_eq_true rfl⟩ ⟨Nat.le_of_ble_eq_true rfl, Nat.le_of_ble_eq_true rfl⟩ rfl rfl (Nat.le_of_ble_eq_true rfl) ?_
  refine e_if_eq_f dX4_addRule_28 rfl ⟨61, by decide⟩ (by decide) ?_
  refine e_iload_4 dX4_addRule_31 rfl ?_
  refine e_iconst (v := -1) dX4_addRule_33 rfl ic_m1 ?_
  refine e_aload_0 dX4_addRule_34 rfl ?_
  refine e_getI dX4_addRule_35 rfl lkX4_72 rfl ps_64 (by decide) (by decide) ?_
  refine e_topi (nI oc) hoc ?_
  refine e_iconst (v := nI 1) dX4_addRule_38 rfl ic_1 ?_
  refine e_isub dX4_addRule_39 rfl ?_
  refine e_topi (nI oc - nI 1) rfl ?_
  refine e_callS dX4_addRule_40 rfl csX4_75 (m_in_t (M := cdM M 0) hf (inOb_y hoc8 hb).1 (inOb_y hoc8 hb).2) rfl rfl ⟨Nat.le_of_ble_eq_true rfl, Nat.le_of_ble_eq_true rfl⟩ ⟨Nat.le_of_ble_eq_true rfl, Nat.le_of_ble_eq_true rfl⟩ rfl rfl (Nat.le_of_ble_eq_true rfl) ?_
  refine e_if_eq_f dX4_addRule_43 rfl ⟨61, by decide⟩ (by decide) ?_
  refine e_iload_5 dX4_addRule_46 rfl ?_
  refine e_iconst (v := -1) dX4_addRule_48 rfl ic_m1 ?_
  refine e_aload_0 dX4_addRule_49 rfl ?_
  refine e_getI dX4_addRule_50 rfl lkX4_72 rfl ps_64 (by decide) (by decide) ?_
  refine e_topi (nI oc) hoc ?_
  refine e_iconst (v := nI 1) dX4_addRule_53 rfl ic_1 ?_
  refine e_isub dX4_addRule_54 rfl ?_
  refine e_topi (nI oc - nI 1) rfl ?_
  refine e_callS dX4_addRule_55 rfl csX4_75 (m_in_t (M := cdM M 0) hf (inOb_y hoc8 hc).1 (inOb_y hoc8 hc).2) rfl rfl ⟨Nat.le_of_ble_eq_true rfl, Nat.le_of_ble_eq_true rfl⟩ ⟨Nat.le_of_ble_eq_true rfl, Nat.le_of_ble_eq_true rfl⟩ rfl rfl (Nat.le_of_ble_eq_true rfl) ?_
  refine e_if_ne_t (tgt := 67) dX4_addRule_58 (by decide) (by decide) ?_
  rcases hac with rfl | rfl
  · refine e_iload_2 dX4_addRule_67 rfl ?_
    refine e_bipush (v := nI 97) dX4_addRule_68 rfl bc_97 ?_
    refine e_nc_eq_t (tgt := 79) dX4_addRule_70 (by decide) (by omega) (by omega) rfl ?_
    refine e_iload_6 dX4_addRule_79 rfl ?_
    refine e_iconst (v := nI 0) dX4_addRule_81 rfl ic_0 ?_
    refine e_iconst (v := nI 5) dX4_addRule_82 rfl ic_5 ?_
    refine e_callS dX4_addRule_83 rfl csX4_75 (m_in_t (M := cdM M 0) hf (nI_le (Nat.zero_le ow) (by omega)) (nI_le (show ow ≤ 5 by omega) (by decide))) rfl rfl ⟨Nat.le_of_ble_eq_true rfl, Nat.le_of_ble_eq_true rfl⟩ ⟨Nat.le_of_ble_eq_true rfl, Nat.le_of_ble_eq_true rfl⟩ rfl rfl (Nat.le_of_ble_eq_true rfl) ?_
    refine e_if_ne_t (tgt := 95) dX4_addRule_86 (by decide) (by decide) ?_
    refine e_aload_0 dX4_addRule_95 rfl ?_
    refine e_getI dX4_addRule_96 rfl lkX4_79 rfl ps_64 (by decide) (by decide) ?_
    refine e_topi (nI 8) hmc ?_
    refine e_bipush (v := nI 8) dX4_addRule_99 rfl bc_8 ?_
    refine e_nc_ne_f dX4_addRule_101 rfl ⟨110, by decide⟩ (by omega) (by omega) rfl ?_
    refine e_aload_0 dX4_addRule_104 rfl ?_
    refine e_iconst (v := nI 3) dX4_addRule_105 rfl ic_3 ?_
    refine e_callV dX4_addRule_106 rfl csX4_90 (m_fails (M := (cdM M 0)) (k := 3) hf hmr) rfl rfl ps_64 (by decide) (by decide) ⟨Nat.le_of_ble_eq_true rfl, Nat.le_of_ble_eq_true rfl⟩ ⟨Nat.le_of_ble_eq_true rfl, Nat.le_of_ble_eq_true rfl⟩ rfl rfl (Nat.le_of_ble_eq_true rfl) ?_
    exact e_iret dX4_addRule_109 rfl rfl (Nat.le_of_ble_eq_true rfl) (Nat.le_of_ble_eq_true rfl) rfl rfl
  · refine e_iload_2 dX4_addRule_67 rfl ?_
    refine e_bipush (v := nI 97) dX4_addRule_68 rfl bc_97 ?_
    refine e_nc_eq_f dX4_addRule_70 rfl ⟨79, by decide⟩ (by omega) (by omega) (by decide) ?_
    refine e_iload_2 dX4_addRule_73 rfl ?_
    refine e_bipush (v := nI 100) dX4_addRule_74 rfl bc_100 ?_
    refine e_nc_ne_f dX4_addRule_76 rfl ⟨89, by decide⟩ (by omega) (by omega) rfl ?_
    refine e_iload_6 dX4_addRule_79 rfl ?_
    refine e_iconst (v := nI 0) dX4_addRule_81 rfl ic_0 ?_
    refine e_iconst (v := nI 5) dX4_addRule_82 rfl ic_5 ?_
    refine e_callS dX4_addRule_83 rfl csX4_75 (m_in_t (M := cdM M 0) hf (nI_le (Nat.zero_le ow) (by omega)) (nI_le (show ow ≤ 5 by omega) (by decide))) rfl rfl ⟨Nat.le_of_ble_eq_true rfl, Nat.le_of_ble_eq_true rfl⟩ ⟨Nat.le_of_ble_eq_true rfl, Nat.le_of_ble_eq_true rfl⟩ rfl rfl (Nat.le_of_ble_eq_true rfl) ?_
    refine e_if_ne_t (tgt := 95) dX4_addRule_86 (by decide) (by decide) ?_
    refine e_aload_0 dX4_addRule_95 rfl ?_
    refine e_getI dX4_addRule_96 rfl lkX4_79 rfl ps_64 (by decide) (by decide) ?_
    refine e_topi (nI 8) hmc ?_
    refine e_bipush (v := nI 8) dX4_addRule_99 rfl bc_8 ?_
    refine e_nc_ne_f dX4_addRule_101 rfl ⟨110, by decide⟩ (by omega) (by omega) rfl ?_
    refine e_aload_0 dX4_addRule_104 rfl ?_
    refine e_iconst (v := nI 3) dX4_addRule_105 rfl ic_3 ?_
    refine e_callV dX4_addRule_106 rfl csX4_90 (m_fails (M := (cdM M 0)) (k := 3) hf hmr) rfl rfl ps_64 (by decide) (by decide) ⟨Nat.le_of_ble_eq_true rfl, Nat.le_of_ble_eq_true rfl⟩ ⟨Nat.le_of_ble_eq_true rfl, Nat.le_of_ble_eq_true rfl⟩ rfl rfl (Nat.le_of_ble_eq_true rfl) ?_
    exact e_iret dX4_addRule_109 rfl rfl (Nat.le_of_ble_eq_true rfl) (Nat.le_of_ble_eq_true rfl) rfl rfl
