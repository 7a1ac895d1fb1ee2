/-! ===== the model: its private methods ===== -/
theorem e_ldc {l : Launch} {K : pmKey} {G : pmG} {R : Room} {n u w pc pc' : Nat} {lo : List (Option Value)} {st : List Value} {M : pmM} {idx : Nat} {v : Int32} (hd : decode K.2.1 pc = .ok (.ldc idx, 2)) (hp : pc + 2 = pc') (hw : Cond.constant K.1.cls idx v ∈ gw) (kk : Ev l K G R n u w pc' lo (.int v :: st) M) : Ev l K G R n u w pc lo st M := by
  subst hp
  exact fun p e s m args below meth c D cy L A H locs ls X hl hP hS => lv_ldc X.1 X.2.1 X.2.2.2.1 (X.2.2.2.2.1 _ hw) hd (kk p e s m args below meth c D cy L A H locs ls X hl hP hS)
def cdM (M : pmM) (k : Nat) : pmM := (pm2 M.1 64 0 (nI k), M.2)
theorem cdM_no {M : pmM} {k a j : Nat} (h : a ≠ 64 ∨ j ≠ 0) : (cdM M k).1 a j = M.1 a j := if_neg (fun q => by omega)
def itF {α : Type} (step : Nat → α → α) (a : α) : Nat → α
  | 0 => a
  | n + 1 => step n (itF step a n)
theorem itF_0 {α : Type} (step : Nat → α → α) (a : α) : itF step a 0 = a := rfl
theorem itF_s {α : Type} (step : Nat → α → α) (a : α) (n : Nat) : itF step a (n + 1) = step n (itF step a n) := rfl
theorem shr_and (x : Int32) {k : Nat} (hk : k < 32) : (x >>> (nI k &&& 31)) &&& nI 1 = nI (if hasb x k = true then 1 else 0) := by
  have e0 : ((nI k &&& 31).toBitVec.smod 32).toNat = k := (show ∀ k, k < 32 → ((nI k &&& 31).toBitVec.smod 32).toNat = k by decide +kernel) k hk
  have e : ((x >>> (nI k &&& 31)) &&& nI 1).toBitVec = (x.toBitVec.sshiftRight k) &&& 1#32 := by
    rw [Int32.toBitVec_and]
    show (x >>> (nI k &&& 31)).toBitVec &&& _ = _
    rw [show (x >>> (nI k &&& 31)).toBitVec = x.toBitVec.sshiftRight ((nI k &&& 31).toBitVec.smod 32).toNat from rfl, e0]
    rfl
  apply Int32.toBitVec_inj.mp
  rw [e]
  apply BitVec.eq_of_getLsbD_eq
  intro i hi
  cases h : hasb x k with
  | true =>
    rw [if_pos rfl]
    have h' : x.toBitVec.getLsbD k = true := h
    show _ = (BitVec.ofNat 32 1).getLsbD i
    cases i with
    | zero => simp [BitVec.getLsbD_sshiftRight, h', hk]
    | succ i => simp
  | false =>
    rw [if_neg (by decide)]
    have h' : x.toBitVec.getLsbD k = false := h
    show _ = (BitVec.ofNat 32 0).getLsbD i
    cases i with
    | zero => simp [BitVec.getLsbD_sshiftRight, BitVec.getElem_sshiftRight, ← BitVec.getLsbD_eq_getElem, h', hk]
    | succ i => simp
theorem shr_1 (x : Int32) {k : Nat} (hk : k < 32) (h : hasb x k = true) : (x >>> (nI k &&& 31)) &&& nI 1 = nI 1 := by rw [shr_and x hk, if_pos h]
theorem shr_0 (x : Int32) {k : Nat} (hk : k < 32) (h : hasb x k = false) : (x >>> (nI k &&& 31)) &&& nI 1 = nI 0 := by rw [shr_and x hk, if_neg (by rw [h]; decide)]
theorem shr_n1 (x : Int32) {k : Nat} (hk : k < 32) (h : hasb x k = false) : ¬ (x >>> (nI k &&& 31)) &&& nI 1 = nI 1 := by rw [shr_0 x hk h]; decide
/-- what the model holds of the objects -/
def MO (M : pmM) (oc : Nat) (rg mc : Nat → Nat) (lo hi mb : Nat → Nat → Nat) : Prop :=
  oc ≤ 8 ∧ M.1 64 2 = nI oc ∧ (∀ o, o < oc → M.1 65 o = nI (rg o) ∧ rg o ≤ 3) ∧ (∀ o k, o < oc → k < rg o → M.1 66 (3 * o + k) = nI (lo o k) ∧ M.1 67 (3 * o + k) = nI (hi o k) ∧ lo o k ≤ hi o k ∧ hi o k < 32) ∧
  (∀ o, o < oc → M.1 68 o = nI (mc o) ∧ mc o ≤ 2) ∧ ∀ o k, o < oc → k < mc o → M.1 69 (2 * o + k) = nI (mb o k) ∧ mb o k < oc
theorem MO.congr {M M' : pmM} {oc : Nat} {rg mc : Nat → Nat} {lo hi mb : Nat → Nat → Nat} (h : MO M oc rg mc lo hi mb) (q0 : M'.1 64 2 = M.1 64 2) (q : ∀ a k, 65 ≤ a → a < 70 → M'.1 a k = M.1 a k) : MO M' oc rg mc lo hi mb := by
  obtain ⟨h1, h2, h3, h4, h5, h6⟩ := h
  refine ⟨h1, q0.trans h2, fun o ho => ?_, fun o k ho hk => ?_, fun o ho => ?_, fun o k ho hk => ?_⟩
  · rw [q 65 _ (by decide) (by decide)]; exact h3 o ho
  · rw [q 66 _ (by decide) (by decide), q 67 _ (by decide) (by decide)]; exact h4 o k ho hk
  · rw [q 68 _ (by decide) (by decide)]; exact h5 o ho
  · rw [q 69 _ (by decide) (by decide)]; exact h6 o k ho hk
def spN (a : Nat) : Nat → Int32 := itF (fun i s => s ||| (nI 1 <<< (nI (a + i) &&& 31))) (nI 0)
theorem spN_eq {a b : Nat} (hab : a ≤ b) (hb : b < 32) : spN a (b + 1 - a) = rgO a b := (show ∀ b, b < 32 → ∀ a, a < 32 → a ≤ b → spN a (b + 1 - a) = rgO a b by decide +kernel) b hb a (by omega) hab
def setM (M : pmM) (S : Nat → Int32) : pmM := (fun a k => if a = 81 then S k else M.1 a k, M.2)
theorem setM_no {M : pmM} {S : Nat → Int32} {a k : Nat} (h : a ≠ 81) : (setM M S).1 a k = M.1 a k := if_neg h
theorem setM_81 {M : pmM} {S : Nat → Int32} {k : Nat} : (setM M S).1 81 k = S k := rfl
theorem setM_0 (M : pmM) : M = setM M (M.1 81) := pm_ext fun a k => by
  by_cases h : a = 81
  · subst h; exact (if_pos rfl).symm
  · exact (if_neg h).symm
theorem setM_up {M : pmM} {S : Nat → Int32} {o : Nat} {v : Int32} : (pm2 (setM M S).1 81 o v, M.2) = setM M (upd S o v) := by
  refine pm_ext fun a k => ?_
  show (if a = 81 ∧ k = o then v else if a = 81 then S k else M.1 a k) = if a = 81 then (if k = o then v else S k) else M.1 a k
  by_cases h : a = 81
  · rw [if_pos h, if_pos h]
    by_cases h2 : k = o
    · rw [if_pos ⟨h, h2⟩, if_pos h2]
    · rw [if_neg (fun q => h2 q.2), if_neg h2]
  · rw [if_neg h, if_neg h, if_neg (fun q => h q.1)]
theorem setM_MO {M : pmM} {S : Nat → Int32} {oc : Nat} {rg mc : Nat → Nat} {lo hi mb : Nat → Nat → Nat} (h : MO M oc rg mc lo hi mb) : MO (setM M S) oc rg mc lo hi mb := h.congr (setM_no (by decide)) (fun a k h1 h2 => setM_no (by omega))
def sp1K (lo hi : Nat → Nat → Nat) (o k : Nat) (S : Nat → Int32) : Nat → Int32 := upd S o (S o ||| rgO (lo o k) (hi o k))
def sp1 (rg : Nat → Nat) (lo hi : Nat → Nat → Nat) (ob more : Int32) (o : Nat) (S : Nat → Int32) : Nat → Int32 := itF (sp1K lo hi o) (upd S o (if nI o = ob then more else nI 0)) (rg o)
def spK (mb : Nat → Nat → Nat) (o k : Nat) (S : Nat → Int32) : Nat → Int32 := upd S o (S o ||| S (mb o k))
def spO (mc : Nat → Nat) (mb : Nat → Nat → Nat) (o : Nat) (S : Nat → Int32) : Nat → Int32 := itF (spK mb o) S (mc o)
def spR (oc : Nat) (mc : Nat → Nat) (mb : Nat → Nat → Nat) (_ : Nat) (S : Nat → Int32) : Nat → Int32 := itF (spO mc mb) S oc
def spS (oc : Nat) (rg mc : Nat → Nat) (lo hi mb : Nat → Nat → Nat) (ob more : Int32) (S : Nat → Int32) : Nat → Int32 := itF (spR oc mc mb) (itF (sp1 rg lo hi ob more) S oc) 8
def dpK (mb : Nat → Nat → Nat) (o k : Nat) (s : Int32) : Int32 := if hasb s (mb o k) = true then s ||| (nI 1 <<< (nI o &&& 31)) else s
def dpO (mc : Nat → Nat) (mb : Nat → Nat → Nat) (o : Nat) (s : Int32) : Int32 := itF (dpK mb o) s (mc o)
def dpR (oc : Nat) (mc : Nat → Nat) (mb : Nat → Nat → Nat) (_ : Nat) (s : Int32) : Int32 := itF (dpO mc mb) s oc
def dpS (oc : Nat) (mc : Nat → Nat) (mb : Nat → Nat → Nat) (x : Nat) : Int32 := itF (dpR oc mc mb) (nI 1 <<< (nI x &&& 31)) 8
def stv (M : pmM) (x : Int32) : Int32 := if x = -1 then -1 else M.1 81 (ixN x)
theorem or_0 (x : Int32) : x ||| nI 0 = x := by rw [show nI 0 = 0 from nI_0]; simp
theorem inE_n {x : Int32} {n : Nat} (h : ¬ vp_in x n) (hn : n < 2 ^ 31) : ¬ (nI 0 ≤ x ∧ x ≤ nI n - nI 1) := fun ⟨h1, h2⟩ => by
  by_cases h0 : n = 0
  · subst h0
    have := Int32.le_trans h1 h2
    revert this; decide
  · rw [pk_sub (show 1 ≤ n by omega)] at h2
    obtain ⟨j, hj, rfl⟩ := nI_of (show ¬ x < 0 from fun z => absurd z (Int32.not_lt.mpr h1))
    exact h (vp_in_nI (by have := (nI_leI hj (by omega)).mp h2; omega) hn)
theorem m_thrown {l : Launch} (hf : l.stackTraces = false) {M : pmM} {od : Nat → Nat} (hmr : M.2.1 = mrC od) : Sp l kX4_thrown 86 0 0 0 [.ref 64] M (.inl (some (.int (M.1 64 0)))) M := by
  refine sp_of hf (by decide +kernel) (Nat.le_of_ble_eq_true rfl) (by intro v hv; simp at hv; subst hv; rfl) rfl ?_
  refine e_aload_0 dX4_thrown_0 rfl ?_
  refine e_getI dX4_thrown_1 rfl lkX4_68 rfl ps_64 (by decide) (by decide) ?_
  exact e_iret dX4_thrown_4 rfl rfl (Nat.le_of_ble_eq_true rfl) (Nat.le_of_ble_eq_true rfl) rfl rfl
theorem m_fails {l : Launch} (hf : l.stackTraces = false) {M : pmM} {od : Nat → Nat} (hmr : M.2.1 = mrC od) {k : Nat} : Sp l kX4_fails 86 0 0 0 [.ref 64, .int (nI k)] M (.inl (some (.int (nI 0)))) (cdM M k) := by
  refine sp_of hf (by decide +kernel) (Nat.le_of_ble_eq_true rfl) (by intro v hv; simp at hv; rcases hv with rfl | rfl <;> rfl) rfl ?_
  refine e_aload_0 dX4_fails_0 rfl ?_
  refine e_iload_1 dX4_fails_1 rfl ?_
  refine e_putI dX4_fails_2 rfl lkX4_68 rfl rfl rfl ps_64 (by decide) (by decide) ?_
  refine e_iconst (v := nI 0) dX4_fails_5 rfl ic_0 ?_
  exact e_iret dX4_fails_6 rfl rfl (Nat.le_of_ble_eq_true rfl) (Nat.le_of_ble_eq_true rfl) rfl rfl
theorem m_in_t {l : Launch} (hf : l.stackTraces = false) {M : pmM} {v a b : Int32} (h1 : a ≤ v) (h2 : v ≤ b) : Sp l kX4_in 86 0 0 0 [.int v, .int a, .int b] M (.inl (some (.int (nI 1)))) M := by
  refine sp_of hf (by decide +kernel) (Nat.le_of_ble_eq_true rfl) (by intro v hv; simp at hv; rcases hv with rfl | rfl | rfl <;> rfl) rfl ?_
  refine e_iload_0 dX4_in_0 rfl ?_
  refine e_iload_1 dX4_in_1 rfl ?_
  refine e_ic_lt_f dX4_in_2 rfl ⟨14, by decide⟩ (Int32.not_lt.mpr h1) ?_
  refine e_iload_0 dX4_in_5 rfl ?_
  refine e_iload_2 dX4_in_6 rfl ?_
  refine e_ic_gt_f dX4_in_7 rfl ⟨14, by decide⟩ (Int32.not_lt.mpr h2) ?_
  refine e_iconst (v := nI 1) dX4_in_10 rfl ic_1 ?_
  refine e_goto (tgt := 15) dX4_in_11 (by decide) ?_
  exact e_iret dX4_in_15 rfl rfl (Nat.le_of_ble_eq_true rfl) (Nat.le_of_ble_eq_true rfl) rfl rfl
theorem m_in_f {l : Launch} (hf : l.stackTraces = false) {M : pmM} {v a b : Int32} (h : ¬ (a ≤ v ∧ v ≤ b)) : Sp l kX4_in 86 0 0 0 [.int v, .int a, .int b] M (.inl (some (.int (nI 0)))) M := by
  refine sp_of hf (by decide +kernel) (Nat.le_of_ble_eq_true rfl) (by intro v hv; simp at hv; rcases hv with rfl | rfl | rfl <;> rfl) rfl ?_
  by_cases h1 : a ≤ v
  · refine e_iload_0 dX4_in_0 rfl ?_
    refine e_iload_1 dX4_in_1 rfl ?_
    refine e_ic_lt_f dX4_in_2 rfl ⟨14, by decide⟩ (Int32.not_lt.mpr h1) ?_
    refine e_iload_0 dX4_in_5 rfl ?_
    refine e_iload_2 dX4_in_6 rfl ?_
    refine e_ic_gt_t (tgt := 14) dX4_in_7 (by decide) (Int32.not_le.mp (fun q => h ⟨h1, q⟩)) ?_
    refine e_iconst (v := nI 0) dX4_in_14 rfl ic_0 ?_
    exact e_iret dX4_in_15 rfl rfl (Nat.le_of_ble_eq_true rfl) (Nat.le_of_ble_eq_true rfl) rfl rfl
  · refine e_iload_0 dX4_in_0 rfl ?_
    refine e_iload_1 dX4_in_1 rfl ?_
    refine e_ic_lt_t (tgt := 14) dX4_in_2 (by decide) (Int32.not_le.mp h1) ?_
    refine e_iconst (v := nI 0) dX4_in_14 rfl ic_0 ?_
    exact e_iret dX4_in_15 rfl rfl (Nat.le_of_ble_eq_true rfl) (Nat.le_of_ble_eq_true rfl) rfl rfl
theorem m_isObject_y {l : Launch} (hf : l.stackTraces = false) {M : pmM} {oc : Nat} (hoc : M.1 64 2 = nI oc) (hoc8 : oc ≤ 8) {o : Nat} (ho : o < oc) : Sp l kX4_isObject 86 1 0 0 [.ref 64, .int (nI o)] M (.inl (some (.int (nI 1)))) M := by
  refine sp_of hf (by decide +kernel) (Nat.le_of_ble_eq_true rfl) (by intro v hv; simp at hv; rcases hv with rfl | rfl <;> rfl) rfl ?_
  refine e_iload_1 dX4_isObject_0 rfl ?_
  refine e_iconst (v := nI 0) dX4_isObject_1 rfl ic_0 ?_
  refine e_aload_0 dX4_isObject_2 rfl ?_
  refine e_getI dX4_isObject_3 rfl lkX4_72 rfl ps_64 (by decide) (by decide) ?_
  refine e_topi (nI oc) hoc ?_
  refine e_iconst (v := nI 1) dX4_isObject_6 rfl ic_1 ?_
  refine e_isub dX4_isObject_7 rfl ?_
  refine e_topi (nI (oc - 1)) (pk_sub (by omega)) ?_
  refine e_callS dX4_isObject_8 rfl csX4_75 (m_in_t hf (nI_le (Nat.zero_le o) (by omega)) (nI_le (by omega) (by omega))) rfl rfl ⟨Nat.le_of_ble_eq_true rfl, Nat.le_of_ble_eq_true rfl⟩ ⟨Nat.le_of_ble_eq_true rfl, Nat.le_of_ble_eq_true rfl⟩ rfl rfl (Nat.le_of_ble_eq_true rfl) ?_
  exact e_iret dX4_isObject_11 rfl rfl (Nat.le_of_ble_eq_true rfl) (Nat.le_of_ble_eq_true rfl) rfl rfl
theorem m_isObject_n {l : Launch} (hf : l.stackTraces = false) {M : pmM} {oc : Nat} (hoc : M.1 64 2 = nI oc) (hoc8 : oc ≤ 8) {x : Int32} (hx : ¬ vp_in x oc) : Sp l kX4_isObject 86 1 0 0 [.ref 64, .int x] M (.inl (some (.int (nI 0)))) M := by
  refine sp_of hf (by decide +kernel) (Nat.le_of_ble_eq_true rfl) (by intro v hv; simp at hv; rcases hv with rfl | rfl <;> rfl) rfl ?_
  refine e_iload_1 dX4_isObject_0 rfl ?_
  refine e_iconst (v := nI 0) dX4_isObject_1 rfl ic_0 ?_
  refine e_aload_0 dX4_isObject_2 rfl ?_
  refine e_getI dX4_isObject_3 rfl lkX4_72 rfl ps_64 (by decide) (by decide) ?_
  refine e_topi (nI oc) hoc ?_
  refine e_iconst (v := nI 1) dX4_isObject_6 rfl ic_1 ?_
  refine e_isub dX4_isObject_7 rfl ?_
  refine e_callS dX4_isObject_8 rfl csX4_75 (m_in_f hf (inE_n hx (by omega))) rfl rfl ⟨Nat.le_of_ble_eq_true rfl, Nat.le_of_ble_eq_true rfl⟩ ⟨Nat.le_of_ble_eq_true rfl, Nat.le_of_ble_eq_true rfl⟩ rfl rfl (Nat.le_of_ble_eq_true rfl) ?_
  exact e_iret dX4_isObject_11 rfl rfl (Nat.le_of_ble_eq_true rfl) (Nat.le_of_ble_eq_true rfl) rfl rfl
theorem m_positionOf_ok {l : Launch} (hf : l.stackTraces = false) {M : pmM} {od : Nat → Nat} (hmr : M.2.1 = mrC od) {rc : Nat} (hmc : M.1 64 8 = nI rc) (h8 : rc ≤ 8) {mo : Nat → Nat} (hmo : ∀ p, p < rc → M.1 70 p = nI (mo p) ∧ mo p < 8) {x : Int32} {p : Nat} (hp : p < rc) (hx : M.1 72 (mo p) = x) (hn : ∀ q, q < p → M.1 72 (mo q) ≠ x) : Sp l kX4_positionOf 86 0 0 0 [.ref 64, .int x] M (.inl (some (.int (nI p)))) M := by
  refine sp_of hf (by decide +kernel) (Nat.le_of_ble_eq_true rfl) (by intro v hv; simp at hv; rcases hv with rfl | rfl <;> rfl) rfl ?_
  refine e_iconst (v := nI 0) dX4_positionOf_0 rfl ic_0 ?_
  refine e_istore_2 dX4_positionOf_1 rfl (Nat.le_of_ble_eq_true rfl) rfl ?_
  refine loop_up (P := fun i => Ev l kX4_positionOf (gM 86 0 0 (.inl (some (.int (nI p)))) M) (rmd 0 0 0) 86 0 0 2 [some (.ref 64), some (.int x), some (.int (nI i))] [] M) ?_ (fun i hi ih => ?_) 0 (Nat.zero_le p)
  · refine e_iload_2 dX4_positionOf_2 rfl ?_
    refine e_aload_0 dX4_positionOf_3 rfl ?_
    refine e_getI dX4_positionOf_4 rfl lkX4_79 rfl ps_64 (by decide) (by decide) ?_
    refine e_topi (nI rc) hmc ?_
    refine e_nc_ge_f dX4_positionOf_7 rfl ⟨33, by decide⟩ (by omega) (by omega) (by omega) ?_
    refine e_aload_0 dX4_positionOf_10 rfl ?_
    refine e_getR dX4_positionOf_11 rfl lkX4_32 rfl ps_64 (by decide) (by decide) (mr_of hmr rfl) ?_
    refine e_aload_0 dX4_positionOf_14 rfl ?_
    refine e_getR dX4_positionOf_15 rfl lkX4_25 rfl ps_64 (by decide) (by decide) (mr_of hmr rfl) ?_
    refine e_iload_2 dX4_positionOf_18 rfl ?_
    refine e_iald dX4_positionOf_19 rfl ps_70 (by decide) rfl (by omega) ?_
    refine e_topi (nI (mo p)) (hmo p (by omega)).1 ?_
    refine e_iald dX4_positionOf_20 rfl ps_72 (by decide) rfl (hmo p (by omega)).2 ?_
    refine e_iload_1 dX4_positionOf_21 rfl ?_
    refine e_ic_ne_f dX4_positionOf_22 rfl ⟨27, by decide⟩ hx ?_
    refine e_iload_2 dX4_positionOf_25 rfl ?_
    exact e_iret dX4_positionOf_26 rfl rfl (Nat.le_of_ble_eq_true rfl) (Nat.le_of_ble_eq_true rfl) rfl rfl
  · refine e_iload_2 dX4_positionOf_2 rfl ?_
    refine e_aload_0 dX4_positionOf_3 rfl ?_
    refine e_getI dX4_positionOf_4 rfl lkX4_79 rfl ps_64 (by decide) (by decide) ?_
    refine e_topi (nI rc) hmc ?_
    refine e_nc_ge_f dX4_positionOf_7 rfl ⟨33, by decide⟩ (by omega) (by omega) (by omega) ?_
    refine e_aload_0 dX4_positionOf_10 rfl ?_
    refine e_getR dX4_positionOf_11 rfl lkX4_32 rfl ps_64 (by decide) (by decide) (mr_of hmr rfl) ?_
    refine e_aload_0 dX4_positionOf_14 rfl ?_
    refine e_getR dX4_positionOf_15 rfl lkX4_25 rfl ps_64 (by decide) (by decide) (mr_of hmr rfl) ?_
    refine e_iload_2 dX4_positionOf_18 rfl ?_
    refine e_iald dX4_positionOf_19 rfl ps_70 (by decide) rfl (by omega) ?_
    refine e_topi (nI (mo i)) (hmo i (by omega)).1 ?_
    refine e_iald dX4_positionOf_20 rfl ps_72 (by decide) rfl (hmo i (by omega)).2 ?_
    refine e_iload_1 dX4_positionOf_21 rfl ?_
    refine e_ic_ne_t (tgt := 27) dX4_positionOf_22 (by decide) (hn i hi) ?_
    refine e_iinc_2 (v := nI (i + 1)) dX4_positionOf_27 rfl (Nat.le_of_ble_eq_true rfl) rfl (nI_1 i) ?_
    refine e_goto (tgt := 2) dX4_positionOf_30 (by decide) ?_
    exact ih
theorem m_positionOf_no {l : Launch} (hf : l.stackTraces = false) {M : pmM} {od : Nat → Nat} (hmr : M.2.1 = mrC od) {rc : Nat} (hmc : M.1 64 8 = nI rc) (h8 : rc ≤ 8) {mo : Nat → Nat} (hmo : ∀ p, p < rc → M.1 70 p = nI (mo p) ∧ mo p < 8) {x : Int32} (hn : ∀ q, q < rc → M.1 72 (mo q) ≠ x) : Sp l kX4_positionOf 86 0 0 0 [.ref 64, .int x] M (.inl (some (.int (-1)))) M := by
  refine sp_of hf (by decide +kernel) (Nat.le_of_ble_eq_true rfl) (by intro v hv; simp at hv; rcases hv with rfl | rfl <;> rfl) rfl ?_
  refine e_iconst (v := nI 0) dX4_positionOf_0 rfl ic_0 ?_
  refine e_istore_2 dX4_positionOf_1 rfl (Nat.le_of_ble_eq_true rfl) rfl ?_
  refine loop_up (P := fun i => Ev l kX4_positionOf (gM 86 0 0 (.inl (some (.int (-1)))) M) (rmd 0 0 0) 86 0 0 2 [some (.ref 64), some (.int x), some (.int (nI i))] [] M) ?_ (fun i hi ih => ?_) 0 (Nat.zero_le rc)
  · refine e_iload_2 dX4_positionOf_2 rfl ?_
    refine e_aload_0 dX4_positionOf_3 rfl ?_
    refine e_getI dX4_positionOf_4 rfl lkX4_79 rfl ps_64 (by decide) (by decide) ?_
    refine e_topi (nI rc) hmc ?_
    refine e_nc_ge_t (tgt := 33) dX4_positionOf_7 (by decide) (by omega) (by omega) (Nat.le_refl _) ?_
    refine e_iconst (v := -1) dX4_positionOf_33 rfl ic_m1 ?_
    exact e_iret dX4_positionOf_34 rfl rfl (Nat.le_of_ble_eq_true rfl) (Nat.le_of_ble_eq_true rfl) rfl rfl
  · refine e_iload_2 dX4_positionOf_2 rfl ?_
    refine e_aload_0 dX4_positionOf_3 rfl ?_
    refine e_getI dX4_positionOf_4 rfl lkX4_79 rfl ps_64 (by decide) (by decide) ?_
    refine e_topi (nI rc) hmc ?_
    refine e_nc_ge_f dX4_positionOf_7 rfl ⟨33, by decide⟩ (by omega) (by omega) (by omega) ?_
    refine e_aload_0 dX4_positionOf_10 rfl ?_
    refine e_getR dX4_positionOf_11 rfl lkX4_32 rfl ps_64 (by decide) (by decide) (mr_of hmr rfl) ?_
    refine e_aload_0 dX4_positionOf_14 rfl ?_
    refine e_getR dX4_positionOf_15 rfl lkX4_25 rfl ps_64 (by decide) (by decide) (mr_of hmr rfl) ?_
    refine e_iload_2 dX4_positionOf_18 rfl ?_
    refine e_iald dX4_positionOf_19 rfl ps_70 (by decide) rfl (by omega) ?_
    refine e_topi (nI (mo i)) (hmo i (by omega)).1 ?_
    refine e_iald dX4_positionOf_20 rfl ps_72 (by decide) rfl (hmo i (by omega)).2 ?_
    refine e_iload_1 dX4_positionOf_21 rfl ?_
    refine e_ic_ne_t (tgt := 27) dX4_positionOf_22 (by decide) (hn i hi) ?_
    refine e_iinc_2 (v := nI (i + 1)) dX4_positionOf_27 rfl (Nat.le_of_ble_eq_true rfl) rfl (nI_1 i) ?_
    refine e_goto (tgt := 2) dX4_positionOf_30 (by decide) ?_
    exact ih
theorem m_slotOf_ok {l : Launch} (hf : l.stackTraces = false) {M : pmM} {od : Nat → Nat} (hmr : M.2.1 = mrC od) {rc : Nat} (hmc : M.1 64 8 = nI rc) (h8 : rc ≤ 8) {mo : Nat → Nat} (hmo : ∀ p, p < rc → M.1 70 p = nI (mo p) ∧ mo p < 8) {x : Int32} {p : Nat} (hp : p < rc) (hx : M.1 72 (mo p) = x) (hn : ∀ q, q < p → M.1 72 (mo q) ≠ x) : Sp l kX4_slotOf 86 1 0 0 [.ref 64, .int x] M (.inl (some (.int (nI (mo p))))) (cdM M 0) := by
  refine sp_of hf (by decide +kernel) (Nat.le_of_ble_eq_true rfl) (by intro v hv; simp at hv; rcases hv with rfl | rfl <;> rfl) rfl ?_
  refine e_aload_0 dX4_slotOf_0 rfl ?_
  refine e_iload_1 dX4_slotOf_1 rfl ?_
  refine e_callV dX4_slotOf_2 rfl csX4_82 (m_positionOf_ok hf hmr hmc h8 hmo hp hx hn) rfl rfl ps_64 (by decide) (by decide) ⟨Nat.le_of_ble_eq_true rfl, Nat.le_of_ble_eq_true rfl⟩ ⟨Nat.le_of_ble_eq_true rfl, Nat.le_of_ble_eq_true rfl⟩ rfl rfl (Nat.le_of_ble_eq_true rfl) ?_
  refine e_istore_2 dX4_slotOf_5 rfl (Nat.le_of_ble_eq_true rfl) rfl ?_
  refine e_aload_0 dX4_slotOf_6 rfl ?_
  refine e_iload_2 dX4_slotOf_7 rfl ?_
  refine e_iconst (v := -1) dX4_slotOf_8 rfl ic_m1 ?_
  refine e_ic_ne_t (tgt := 16) dX4_slotOf_9 (by decide) (nI_m1 (by omega)) ?_
  refine e_iconst (v := nI 0) dX4_slotOf_16 rfl ic_0 ?_
  refine e_putI dX4_slotOf_17 rfl lkX4_68 rfl rfl rfl ps_64 (by decide) (by decide) ?_
  refine e_iload_2 dX4_slotOf_20 rfl ?_
  refine e_iconst (v := -1) dX4_slotOf_21 rfl ic_m1 ?_
  refine e_ic_ne_t (tgt := 29) dX4_slotOf_22 (by decide) (nI_m1 (by omega)) ?_
  refine e_aload_0 dX4_slotOf_29 rfl ?_
  refine e_getR dX4_slotOf_30 rfl lkX4_25 rfl ps_64 (by decide) (by decide) (mr_of hmr rfl) ?_
  refine e_iload_2 dX4_slotOf_33 rfl ?_
  refine e_iald dX4_slotOf_34 rfl ps_70 (by decide) rfl (by omega) ?_
  refine e_topi (nI (mo p)) (hmo p hp).1 ?_
  exact e_iret dX4_slotOf_35 rfl rfl (Nat.le_of_ble_eq_true rfl) (Nat.le_of_ble_eq_true rfl) rfl rfl
theorem m_slotOf_no {l : Launch} (hf : l.stackTraces = false) {M : pmM} {od : Nat → Nat} (hmr : M.2.1 = mrC od) {rc : Nat} (hmc : M.1 64 8 = nI rc) (h8 : rc ≤ 8) {mo : Nat → Nat} (hmo : ∀ p, p < rc → M.1 70 p = nI (mo p) ∧ mo p < 8) {x : Int32} (hn : ∀ q, q < rc → M.1 72 (mo q) ≠ x) : Sp l kX4_slotOf 86 1 0 0 [.ref 64, .int x] M (.inl (some (.int (nI 0)))) (cdM M 1) := by
  refine sp_of hf (by decide +kernel) (Nat.le_of_ble_eq_true rfl) (by intro v hv; simp at hv; rcases hv with rfl | rfl <;> rfl) rfl ?_
  refine e_aload_0 dX4_slotOf_0 rfl ?_
  refine e_iload_1 dX4_slotOf_1 rfl ?_
  refine e_callV dX4_slotOf_2 rfl csX4_82 (m_positionOf_no hf hmr hmc h8 hmo hn) rfl rfl ps_64 (by decide) (by decide) ⟨Nat.le_of_ble_eq_true rfl, Nat.le_of_ble_eq_true rfl⟩ ⟨Nat.le_of_ble_eq_true rfl, Nat.le_of_ble_eq_true rfl⟩ rfl rfl (Nat.le_of_ble_eq_true rfl) ?_
  refine e_istore_2 dX4_slotOf_5 rfl (Nat.le_of_ble_eq_true rfl) rfl ?_
  refine e_aload_0 dX4_slotOf_6 rfl ?_
  refine e_iload_2 dX4_slotOf_7 rfl ?_
  refine e_iconst (v := -1) dX4_slotOf_8 rfl ic_m1 ?_
  refine e_ic_ne_f dX4_slotOf_9 rfl ⟨16, by decide⟩ rfl ?_
  refine e_iconst (v := nI 1) dX4_slotOf_12 rfl ic_1 ?_
  refine e_goto (tgt := 17) dX4_slotOf_13 (by decide) ?_
  refine e_putI dX4_slotOf_17 rfl lkX4_68 rfl rfl rfl ps_64 (by decide) (by decide) ?_
  refine e_iload_2 dX4_slotOf_20 rfl ?_
  refine e_iconst (v := -1) dX4_slotOf_21 rfl ic_m1 ?_
  refine e_ic_ne_f dX4_slotOf_22 rfl ⟨29, by decide⟩ rfl ?_
  refine e_iconst (v := nI 0) dX4_slotOf_25 rfl ic_0 ?_
  refine e_goto (tgt := 35) dX4_slotOf_26 (by decide) ?_
  exact e_iret dX4_slotOf_35 rfl rfl (Nat.le_of_ble_eq_true rfl) (Nat.le_of_ble_eq_true rfl) rfl rfl
theorem m_span {l : Launch} (hf : l.stackTraces = false) {M : pmM} {a b : Nat} (hab : a ≤ b) (hb : b < 32) : Sp l kX4_span 86 0 0 0 [.int (nI a), .int (nI b)] M (.inl (some (.int (rgO a b)))) M := by
  refine sp_of hf (by decide +kernel) (Nat.le_of_ble_eq_true rfl) (by intro v hv; simp at hv; rcases hv with rfl | rfl <;> rfl) rfl ?_
  refine e_iconst (v := nI 0) dX4_span_0 rfl ic_0 ?_
  refine e_istore_2 dX4_span_1 rfl (Nat.le_of_ble_eq_true rfl) rfl ?_
  refine e_iload_0 dX4_span_2 rfl ?_
  refine e_istore_3 dX4_span_3 rfl (Nat.le_of_ble_eq_true rfl) rfl ?_
  refine loop_up (P := fun i => Ev l kX4_span (gM 86 0 0 (.inl (some (.int (rgO a b)))) M) (rmd 0 0 0) 86 0 0 4 [some (.int (nI a)), some (.int (nI b)), some (.int (spN a i)), some (.int (nI (a + i)))] [] M) ?_ (fun i hi ih => ?_) 0 (Nat.zero_le (b + 1 - a))
  · refine e_iload_3 dX4_span_4 rfl ?_
    refine e_iload_1 dX4_span_5 rfl ?_
    refine e_nc_gt_t (tgt := 21) dX4_span_6 (by decide) (by omega) (by omega) (by omega) ?_
    refine e_iload_2 dX4_span_21 rfl ?_
    exact e_iret dX4_span_22 rfl rfl (Nat.le_of_ble_eq_true rfl) (Nat.le_of_ble_eq_true rfl) (spN_eq hab hb) rfl
  · refine e_iload_3 dX4_span_4 rfl ?_
    refine e_iload_1 dX4_span_5 rfl ?_
    refine e_nc_gt_f dX4_span_6 rfl ⟨21, by decide⟩ (by omega) (by omega) (by omega) ?_
    refine e_iload_2 dX4_span_9 rfl ?_
    refine e_iconst (v := nI 1) dX4_span_10 rfl ic_1 ?_
    refine e_iload_3 dX4_span_11 rfl ?_
    refine e_ishl dX4_span_12 rfl ?_
    refine e_ior dX4_span_13 rfl ?_
    refine e_istore_2 dX4_span_14 rfl (Nat.le_of_ble_eq_true rfl) rfl ?_
    refine e_iinc_3 (v := nI (a + i + 1)) dX4_span_15 rfl (Nat.le_of_ble_eq_true rfl) rfl (nI_1 (a + i)) ?_
    refine e_goto (tgt := 4) dX4_span_18 (by decide) ?_
    exact ih
theorem m_size {l : Launch} (hf : l.stackTraces = false) {M : pmM} {x : Int32} : Sp l kX4_size 86 0 0 0 [.int x] M (.inl (some (.int (nI (cntN (hasb x) 32))))) M := by
  refine sp_of hf (by decide +kernel) (Nat.le_of_ble_eq_true rfl) (by intro v hv; simp at hv; subst hv; rfl) rfl ?_
  refine e_iconst (v := nI 0) dX4_size_0 rfl ic_0 ?_
  refine e_istore_1 dX4_size_1 rfl (Nat.le_of_ble_eq_true rfl) rfl ?_
  refine e_iconst (v := nI 0) dX4_size_2 rfl ic_0 ?_
  refine e_istore_2 dX4_size_3 rfl (Nat.le_of_ble_eq_true rfl) rfl ?_
  refine loop_up (P := fun i => Ev l kX4_size (gM 86 0 0 (.inl (some (.int (nI (cntN (hasb x) 32))))) M) (rmd 0 0 0) 86 0 0 4 [some (.int x), some (.int (nI (cntN (hasb x) i))), some (.int (nI i))] [] M) ?_ (fun i hi ih => ?_) 0 (Nat.zero_le 32)
  · refine e_iload_2 dX4_size_4 rfl ?_
    refine e_bipush (v := nI 32) dX4_size_5 rfl bc_32 ?_
    refine e_nc_ge_t (tgt := 24) dX4_size_7 (by decide) (by omega) (by omega) (Nat.le_refl _) ?_
    refine e_iload_1 dX4_size_24 rfl ?_
    exact e_iret dX4_size_25 rfl rfl (Nat.le_of_ble_eq_true rfl) (Nat.le_of_ble_eq_true rfl) rfl rfl
  · refine e_iload_2 dX4_size_4 rfl ?_
    refine e_bipush (v := nI 32) dX4_size_5 rfl bc_32 ?_
    refine e_nc_ge_f dX4_size_7 rfl ⟨24, by decide⟩ (by omega) (by omega) hi ?_
    refine e_iload_1 dX4_size_10 rfl ?_
    refine e_iload_0 dX4_size_11 rfl ?_
    refine e_iload_2 dX4_size_12 rfl ?_
    refine e_ishr dX4_size_13 rfl ?_
    refine e_iconst (v := nI 1) dX4_size_14 rfl ic_1 ?_
    refine e_iand dX4_size_15 rfl ?_
    refine e_topi (nI (if hasb x i = true then 1 else 0)) (shr_and x hi) ?_
    refine e_iadd dX4_size_16 rfl ?_
    refine e_topi (nI (cntN (hasb x) i + (if hasb x i = true then 1 else 0))) (nI_add _ _) ?_
    refine e_istore_1 dX4_size_17 rfl (Nat.le_of_ble_eq_true rfl) rfl ?_
    refine e_iinc_2 (v := nI (i + 1)) dX4_size_18 rfl (Nat.le_of_ble_eq_true rfl) rfl (nI_1 i) ?_
    refine e_goto (tgt := 4) dX4_size_21 (by decide) ?_
    refine e_loc ?_ ih
    rw [cntN]; split <;> rfl
theorem m_isOn {l : Launch} (hf : l.stackTraces = false) {M : pmM} {od : Nat → Nat} (hmr : M.2.1 = mrC od) {s : Nat} (hs : s < 8) : Sp l kX4_isOn 86 0 0 0 [.ref 64, .int (nI s)] M (.inl (some (.int (bI (lastF (M.1 76 s) (M.1 64 1)))))) M := by
  refine sp_of hf (by decide +kernel) (Nat.le_of_ble_eq_true rfl) (by intro v hv; simp at hv; rcases hv with rfl | rfl <;> rfl) rfl ?_
  by_cases h1 : M.1 76 s = -1
  · refine e_aload_0 dX4_isOn_0 rfl ?_
    refine e_getR dX4_isOn_1 rfl lkX4_44 rfl ps_64 (by decide) (by decide) (mr_of hmr rfl) ?_
    refine e_iload_1 dX4_isOn_4 rfl ?_
    refine e_iald dX4_isOn_5 rfl ps_76 (by decide) rfl (by omega) ?_
    refine e_iconst (v := -1) dX4_isOn_6 rfl ic_m1 ?_
    refine e_ic_eq_t (tgt := 23) dX4_isOn_7 (by decide) h1 ?_
    refine e_iconst (v := nI 1) dX4_isOn_23 rfl ic_1 ?_
    refine e_goto (tgt := 28) dX4_isOn_24 (by decide) ?_
    exact e_iret dX4_isOn_28 rfl rfl (Nat.le_of_ble_eq_true rfl) (Nat.le_of_ble_eq_true rfl) (bI_t (decide_eq_true (Or.inl h1))).symm rfl
  · by_cases h2 : M.1 64 1 ≤ M.1 76 s
    · refine e_aload_0 dX4_isOn_0 rfl ?_
      refine e_getR dX4_isOn_1 rfl lkX4_44 rfl ps_64 (by decide) (by decide) (mr_of hmr rfl) ?_
      refine e_iload_1 dX4_isOn_4 rfl ?_
      refine e_iald dX4_isOn_5 rfl ps_76 (by decide) rfl (by omega) ?_
      refine e_iconst (v := -1) dX4_isOn_6 rfl ic_m1 ?_
      refine e_ic_eq_f dX4_isOn_7 rfl ⟨23, by decide⟩ h1 ?_
      refine e_aload_0 dX4_isOn_10 rfl ?_
      refine e_getI dX4_isOn_11 rfl lkX4_110 rfl ps_64 (by decide) (by decide) ?_
      refine e_aload_0 dX4_isOn_14 rfl ?_
      refine e_getR dX4_isOn_15 rfl lkX4_44 rfl ps_64 (by decide) (by decide) (mr_of hmr rfl) ?_
      refine e_iload_1 dX4_isOn_18 rfl ?_
      refine e_iald dX4_isOn_19 rfl ps_76 (by decide) rfl (by omega) ?_
      refine e_ic_gt_f dX4_isOn_20 rfl ⟨27, by decide⟩ (Int32.not_lt.mpr h2) ?_
      refine e_iconst (v := nI 1) dX4_isOn_23 rfl ic_1 ?_
      refine e_goto (tgt := 28) dX4_isOn_24 (by decide) ?_
      exact e_iret dX4_isOn_28 rfl rfl (Nat.le_of_ble_eq_true rfl) (Nat.le_of_ble_eq_true rfl) (bI_t (decide_eq_true (Or.inr h2))).symm rfl
    · refine e_aload_0 dX4_isOn_0 rfl ?_
      refine e_getR dX4_isOn_1 rfl lkX4_44 rfl ps_64 (by decide) (by decide) (mr_of hmr rfl) ?_
      refine e_iload_1 dX4_isOn_4 rfl ?_
      refine e_iald dX4_isOn_5 rfl ps_76 (by decide) rfl (by omega) ?_
      refine e_iconst (v := -1) dX4_isOn_6 rfl ic_m1 ?_
      refine e_ic_eq_f dX4_isOn_7 rfl ⟨23, by decide⟩ h1 ?_
      refine e_aload_0 dX4_isOn_10 rfl ?_
      refine e_getI dX4_isOn_11 rfl lkX4_110 rfl ps_64 (by decide) (by decide) ?_
      refine e_aload_0 dX4_isOn_14 rfl ?_
      refine e_getR dX4_isOn_15 rfl lkX4_44 rfl ps_64 (by decide) (by decide) (mr_of hmr rfl) ?_
      refine e_iload_1 dX4_isOn_18 rfl ?_
      refine e_iald dX4_isOn_19 rfl ps_76 (by decide) rfl (by omega) ?_
      refine e_ic_gt_t (tgt := 27) dX4_isOn_20 (by decide) (Int32.not_le.mp h2) ?_
      refine e_iconst (v := nI 0) dX4_isOn_27 rfl ic_0 ?_
      exact e_iret dX4_isOn_28 rfl rfl (Nat.le_of_ble_eq_true rfl) (Nat.le_of_ble_eq_true rfl) (bI_f (decide_eq_false (fun q => q.elim h1 h2))).symm rfl
theorem m_setOf {l : Launch} (hf : l.stackTraces = false) {M : pmM} {od : Nat → Nat} (hmr : M.2.1 = mrC od) {s f : Nat} (hs : s < 8) (hf3 : f < 3) (hx : fOk (M.1 74 (3 * s + f))) : Sp l kX4_setOf 86 0 0 0 [.ref 64, .int (nI s), .int (nI f)] M (.inl (some (.int (stv M (M.1 74 (3 * s + f)))))) M := by
  refine sp_of hf (by decide +kernel) (Nat.le_of_ble_eq_true rfl) (by intro v hv; simp at hv; rcases hv with rfl | rfl | rfl <;> rfl) rfl ?_
  rcases hx with hx | ⟨b, hb, hx⟩
  · refine e_aload_0 dX4_setOf_0 rfl ?_
    refine e_getR dX4_setOf_1 rfl lkX4_38 rfl ps_64 (by decide) (by decide) (mr_of hmr rfl) ?_
    refine e_iconst (v := nI 3) dX4_setOf_4 rfl ic_3 ?_
    refine e_iload_1 dX4_setOf_5 rfl ?_
    refine e_imul dX4_setOf_6 rfl ?_
    refine e_topi (nI (3 * s)) (pk_mul _ _) ?_
    refine e_iload_2 dX4_setOf_7 rfl ?_
    refine e_iadd dX4_setOf_8 rfl ?_
    refine e_topi (nI (3 * s + f)) (nI_add _ _) ?_
    refine e_iald dX4_setOf_9 rfl ps_74 (by decide) rfl (by omega) ?_
    refine e_istore_3 dX4_setOf_10 rfl (Nat.le_of_ble_eq_true rfl) rfl ?_
    refine e_iload_3 dX4_setOf_11 rfl ?_
    refine e_iconst (v := -1) dX4_setOf_12 rfl ic_m1 ?_
    refine e_ic_ne_f dX4_setOf_13 rfl ⟨20, by decide⟩ hx ?_
    refine e_iconst (v := -1) dX4_setOf_16 rfl ic_m1 ?_
    refine e_goto (tgt := 26) dX4_setOf_17 (by decide) ?_
    exact e_iret dX4_setOf_26 rfl rfl (Nat.le_of_ble_eq_true rfl) (Nat.le_of_ble_eq_true rfl) (if_pos hx).symm rfl
  · refine e_aload_0 dX4_setOf_0 rfl ?_
    refine e_getR dX4_setOf_1 rfl lkX4_38 rfl ps_64 (by decide) (by decide) (mr_of hmr rfl) ?_
    refine e_iconst (v := nI 3) dX4_setOf_4 rfl ic_3 ?_
    refine e_iload_1 dX4_setOf_5 rfl ?_
    refine e_imul dX4_setOf_6 rfl ?_
    refine e_topi (nI (3 * s)) (pk_mul _ _) ?_
    refine e_iload_2 dX4_setOf_7 rfl ?_
    refine e_iadd dX4_setOf_8 rfl ?_
    refine e_topi (nI (3 * s + f)) (nI_add _ _) ?_
    refine e_iald dX4_setOf_9 rfl ps_74 (by decide) rfl (by omega) ?_
    refine e_topi (nI b) hx ?_
    refine e_istore_3 dX4_setOf_10 rfl (Nat.le_of_ble_eq_true rfl) rfl ?_
    refine e_iload_3 dX4_setOf_11 rfl ?_
    refine e_iconst (v := -1) dX4_setOf_12 rfl ic_m1 ?_
    refine e_ic_ne_t (tgt := 20) dX4_setOf_13 (by decide) (nI_m1 hb) ?_
    refine e_aload_0 dX4_setOf_20 rfl ?_
    refine e_getR dX4_setOf_21 rfl lkX4_59 rfl ps_64 (by decide) (by decide) (mr_of hmr rfl) ?_
    refine e_iload_3 dX4_setOf_24 rfl ?_
    refine e_iald dX4_setOf_25 rfl ps_81 (by decide) rfl (by omega) ?_
    exact e_iret dX4_setOf_26 rfl rfl (Nat.le_of_ble_eq_true rfl) (Nat.le_of_ble_eq_true rfl) (by rw [hx, stv, if_neg (nI_m1 hb), ixN_nI hb]) rfl
theorem m_first {l : Launch} (hf : l.stackTraces = false) {M : pmM} {x : Int32} : Sp l kX4_first 86 0 0 0 [.int x] M (.inl (some (.int (x &&& -x)))) M := by
  refine sp_of hf (by decide +kernel) (Nat.le_of_ble_eq_true rfl) (by intro v hv; simp at hv; subst hv; rfl) rfl ?_
  refine e_iload_0 dX4_first_0 rfl ?_
  refine e_iload_0 dX4_first_1 rfl ?_
  refine e_ineg dX4_first_2 rfl ?_
  refine e_iand dX4_first_3 rfl ?_
  exact e_iret dX4_first_4 rfl rfl (Nat.le_of_ble_eq_true rfl) (Nat.le_of_ble_eq_true rfl) rfl rfl
theorem m_memberAt_ok {l : Launch} (hf : l.stackTraces = false) {M : pmM} {od : Nat → Nat} (hmr : M.2.1 = mrC od) {oc : Nat} {rg mc : Nat → Nat} {lo hi mb : Nat → Nat → Nat} (hO : MO M oc rg mc lo hi mb) {o m k : Nat} (ho : o < oc) (hm : m < 8) (hk : k < mc o) (hx : mb o k = m) (hn : ∀ j, j < k → mb o j ≠ m) : Sp l kX4_memberAt 86 0 0 0 [.ref 64, .int (nI o), .int (nI m)] M (.inl (some (.int (nI k)))) M := by
  refine sp_of hf (by decide +kernel) (Nat.le_of_ble_eq_true rfl) (by intro v hv; simp at hv; rcases hv with rfl | rfl | rfl <;> rfl) rfl ?_
  obtain ⟨h1, h2, h3, h4, h5, h6⟩ := hO
  have hc := (h5 o ho).2
  refine e_iconst (v := nI 0) dX4_memberAt_0 rfl ic_0 ?_
  refine e_istore_3 dX4_memberAt_1 rfl (Nat.le_of_ble_eq_true rfl) rfl ?_
  refine loop_up (P := fun i => Ev l kX4_memberAt (gM 86 0 0 (.inl (some (.int (nI k)))) M) (rmd 0 0 0) 86 0 0 2 [some (.ref 64), some (.int (nI o)), some (.int (nI m)), some (.int (nI i))] [] M) ?_ (fun i hi ih => ?_) 0 (Nat.zero_le k)
  · have hb := (h6 o k ho hk).2
    refine e_iload_3 dX4_memberAt_2 rfl ?_
    refine e_aload_0 dX4_memberAt_3 rfl ?_
    refine e_getR dX4_memberAt_4 rfl lkX4_19 rfl ps_64 (by decide) (by decide) (mr_of hmr rfl) ?_
    refine e_iload_1 dX4_memberAt_7 rfl ?_
    refine e_iald dX4_memberAt_8 rfl ps_68 (by decide) rfl (by omega) ?_
    refine e_topi (nI (mc o)) (h5 o ho).1 ?_
    refine e_nc_ge_f dX4_memberAt_9 rfl ⟨34, by decide⟩ (by omega) (by omega) hk ?_
    refine e_aload_0 dX4_memberAt_12 rfl ?_
    refine e_getR dX4_memberAt_13 rfl lkX4_22 rfl ps_64 (by decide) (by decide) (mr_of hmr rfl) ?_
    refine e_iconst (v := nI 2) dX4_memberAt_16 rfl ic_2 ?_
    refine e_iload_1 dX4_memberAt_17 rfl ?_
    refine e_imul dX4_memberAt_18 rfl ?_
    refine e_topi (nI (2 * o)) (pk_mul _ _) ?_
    refine e_iload_3 dX4_memberAt_19 rfl ?_
    refine e_iadd dX4_memberAt_20 rfl ?_
    refine e_topi (nI (2 * o + k)) (nI_add _ _) ?_
    refine e_iald dX4_memberAt_21 rfl ps_69 (by decide) rfl (by omega) ?_
    refine e_topi (nI (mb o k)) (h6 o k ho (by omega)).1 ?_
    refine e_iload_2 dX4_memberAt_22 rfl ?_
    refine e_nc_ne_f dX4_memberAt_23 rfl ⟨28, by decide⟩ (by omega) (by omega) hx ?_
    refine e_iload_3 dX4_memberAt_26 rfl ?_
    exact e_iret dX4_memberAt_27 rfl rfl (Nat.le_of_ble_eq_true rfl) (Nat.le_of_ble_eq_true rfl) rfl rfl
  · have hb := (h6 o i ho (by omega)).2
    refine e_iload_3 dX4_memberAt_2 rfl ?_
    refine e_aload_0 dX4_memberAt_3 rfl ?_
    refine e_getR dX4_memberAt_4 rfl lkX4_19 rfl ps_64 (by decide) (by decide) (mr_of hmr rfl) ?_
    refine e_iload_1 dX4_memberAt_7 rfl ?_
    refine e_iald dX4_memberAt_8 rfl ps_68 (by decide) rfl (by omega) ?_
    refine e_topi (nI (mc o)) (h5 o ho).1 ?_
    refine e_nc_ge_f dX4_memberAt_9 rfl ⟨34, by decide⟩ (by omega) (by omega) (by omega) ?_
    refine e_aload_0 dX4_memberAt_12 rfl ?_
    refine e_getR dX4_memberAt_13 rfl lkX4_22 rfl ps_64 (by decide) (by decide) (mr_of hmr rfl) ?_
    refine e_iconst (v := nI 2) dX4_memberAt_16 rfl ic_2 ?_
    refine e_iload_1 dX4_memberAt_17 rfl ?_
    refine e_imul dX4_memberAt_18 rfl ?_
    refine e_topi (nI (2 * o)) (pk_mul _ _) ?_
    refine e_iload_3 dX4_memberAt_19 rfl ?_
    refine e_iadd dX4_memberAt_20 rfl ?_
    refine e_topi (nI (2 * o + i)) (nI_add _ _) ?_
    refine e_iald dX4_memberAt_21 rfl ps_69 (by decide) rfl (by omega) ?_
    refine e_topi (nI (mb o i)) (h6 o i ho (by omega)).1 ?_
    refine e_iload_2 dX4_memberAt_22 rfl ?_
    refine e_nc_ne_t (tgt := 28) dX4_memberAt_23 (by decide) (by omega) (by omega) (hn i hi) ?_
    refine e_iinc_3 (v := nI (i + 1)) dX4_memberAt_28 rfl (Nat.le_of_ble_eq_true rfl) rfl (nI_1 i) ?_
    refine e_goto (tgt := 2) dX4_memberAt_31 (by decide) ?_
    exact ih
theorem m_memberAt_no {l : Launch} (hf : l.stackTraces = false) {M : pmM} {od : Nat → Nat} (hmr : M.2.1 = mrC od) {oc : Nat} {rg mc : Nat → Nat} {lo hi mb : Nat → Nat → Nat} (hO : MO M oc rg mc lo hi mb) {o m : Nat} (ho : o < oc) (hm : m < 8) (hn : ∀ j, j < mc o → mb o j ≠ m) : Sp l kX4_memberAt 86 0 0 0 [.ref 64, .int (nI o), .int (nI m)] M (.inl (some (.int (-1)))) M := by
  refine sp_of hf (by decide +kernel) (Nat.le_of_ble_eq_true rfl) (by intro v hv; simp at hv; rcases hv with rfl | rfl | rfl <;> rfl) rfl ?_
  obtain ⟨h1, h2, h3, h4, h5, h6⟩ := hO
  have hc := (h5 o ho).2
  refine e_iconst (v := nI 0) dX4_memberAt_0 rfl ic_0 ?_
  refine e_istore_3 dX4_memberAt_1 rfl (Nat.le_of_ble_eq_true rfl) rfl ?_
  refine loop_up (P := fun i => Ev l kX4_memberAt (gM 86 0 0 (.inl (some (.int (-1)))) M) (rmd 0 0 0) 86 0 0 2 [some (.ref 64), some (.int (nI o)), some (.int (nI m)), some (.int (nI i))] [] M) ?_ (fun i hi ih => ?_) 0 (Nat.zero_le (mc o))
  · refine e_iload_3 dX4_memberAt_2 rfl ?_
    refine e_aload_0 dX4_memberAt_3 rfl ?_
    refine e_getR dX4_memberAt_4 rfl lkX4_19 rfl ps_64 (by decide) (by decide) (mr_of hmr rfl) ?_
    refine e_iload_1 dX4_memberAt_7 rfl ?_
    refine e_iald dX4_memberAt_8 rfl ps_68 (by decide) rfl (by omega) ?_
    refine e_topi (nI (mc o)) (h5 o ho).1 ?_
    refine e_nc_ge_t (tgt := 34) dX4_memberAt_9 (by decide) (by omega) (by omega) (Nat.le_refl _) ?_
    refine e_iconst (v := -1) dX4_memberAt_34 rfl ic_m1 ?_
    exact e_iret dX4_memberAt_35 rfl rfl (Nat.le_of_ble_eq_true rfl) (Nat.le_of_ble_eq_true rfl) rfl rfl
  · have hb := (h6 o i ho (by omega)).2
    refine e_iload_3 dX4_memberAt_2 rfl ?_
    refine e_aload_0 dX4_memberAt_3 rfl ?_
    refine e_getR dX4_memberAt_4 rfl lkX4_19 rfl ps_64 (by decide) (by decide) (mr_of hmr rfl) ?_
    refine e_iload_1 dX4_memberAt_7 rfl ?_
    refine e_iald dX4_memberAt_8 rfl ps_68 (by decide) rfl (by omega) ?_
    refine e_topi (nI (mc o)) (h5 o ho).1 ?_
    refine e_nc_ge_f dX4_memberAt_9 rfl ⟨34, by decide⟩ (by omega) (by omega) hi ?_
    refine e_aload_0 dX4_memberAt_12 rfl ?_
    refine e_getR dX4_memberAt_13 rfl lkX4_22 rfl ps_64 (by decide) (by decide) (mr_of hmr rfl) ?_
    refine e_iconst (v := nI 2) dX4_memberAt_16 rfl ic_2 ?_
    refine e_iload_1 dX4_memberAt_17 rfl ?_
    refine e_imul dX4_memberAt_18 rfl ?_
    refine e_topi (nI (2 * o)) (pk_mul _ _) ?_
    refine e_iload_3 dX4_memberAt_19 rfl ?_
    refine e_iadd dX4_memberAt_20 rfl ?_
    refine e_topi (nI (2 * o + i)) (nI_add _ _) ?_
    refine e_iald dX4_memberAt_21 rfl ps_69 (by decide) rfl (by omega) ?_
    refine e_topi (nI (mb o i)) (h6 o i ho (by omega)).1 ?_
    refine e_iload_2 dX4_memberAt_22 rfl ?_
    refine e_nc_ne_t (tgt := 28) dX4_memberAt_23 (by decide) (by omega) (by omega) (hn i hi) ?_
    refine e_iinc_3 (v := nI (i + 1)) dX4_memberAt_28 rfl (Nat.le_of_ble_eq_true rfl) rfl (nI_1 i) ?_
    refine e_goto (tgt := 2) dX4_memberAt_31 (by decide) ?_
    exact ih
theorem m_spreads {l : Launch} (hf : l.stackTraces = false) {M : pmM} {od : Nat → Nat} (hmr : M.2.1 = mrC od) {oc : Nat} {rg mc : Nat → Nat} {lo hi mb : Nat → Nat → Nat} (hO : MO M oc rg mc lo hi mb) {ob more : Int32} : Sp l kX4_spreads 86 1 0 0 [.ref 64, .int ob, .int more] M (.inl none) (setM M (spS oc rg mc lo hi mb ob more (M.1 81))) := by
  refine sp_of hf (by decide +kernel) (Nat.le_of_ble_eq_true rfl) (by intro v hv; simp at hv; rcases hv with rfl | rfl | rfl <;> rfl) rfl ?_
  have q := hO
  obtain ⟨h1, h2, h3, h4, h5, h6⟩ := hO
  refine e_mem (setM_0 M) ?_
  refine e_iconst (v := nI 0) dX4_spreads_0 rfl ic_0 ?_
  refine e_istore_3 dX4_spreads_1 rfl (Nat.le_of_ble_eq_true rfl) rfl ?_
  refine loop_up (P := fun i => Ev l kX4_spreads (gM 86 0 0 (.inl none) (setM M (spS oc rg mc lo hi mb ob more (M.1 81)))) (rmd 1 0 0) 86 0 0 2 [some (.ref 64), some (.int ob), some (.int more), some (.int (nI i)), none, none] [] (setM M (itF (sp1 rg lo hi ob more) (M.1 81) i))) ?_ (fun i hit ih => ?_) 0 (Nat.zero_le oc)
  · refine e_iload_3 dX4_spreads_2 rfl ?_
    refine e_aload_0 dX4_spreads_3 rfl ?_
    refine e_getI dX4_spreads_4 rfl lkX4_72 rfl ps_64 (by decide) (by decide) ?_
    refine e_topi (nI oc) h2 ?_
    refine e_nc_ge_t (tgt := 86) dX4_spreads_7 (by decide) (by omega) (by omega) (Nat.le_refl _) ?_
    refine e_iconst (v := nI 0) dX4_spreads_86 rfl ic_0 ?_
    refine e_istore_3 dX4_spreads_87 rfl (Nat.le_of_ble_eq_true rfl) rfl ?_
    refine loop_up (P := fun r => Ev l kX4_spreads (gM 86 0 0 (.inl none) (setM M (spS oc rg mc lo hi mb ob more (M.1 81)))) (rmd 1 0 0) 86 0 0 88 [some (.ref 64), some (.int ob), some (.int more), some (.int (nI r)), none, none] [] (setM M (itF (spR oc mc mb) (itF (sp1 rg lo hi ob more) (M.1 81) oc) r))) ?_ (fun r hr ih => ?_) 0 (Nat.zero_le 8)
    · refine e_iload_3 dX4_spreads_88 rfl ?_
      refine e_bipush (v := nI 8) dX4_spreads_89 rfl bc_8 ?_
      refine e_nc_ge_t (tgt := 166) dX4_spreads_91 (by decide) (by omega) (by omega) (Nat.le_refl _) ?_
      exact e_vret dX4_spreads_166 rfl (Nat.le_of_ble_eq_true rfl) (Nat.le_of_ble_eq_true rfl) rfl
    · rw [itF_s, spR] at ih
      generalize itF (spR oc mc mb) (itF (sp1 rg lo hi ob more) (M.1 81) oc) r = S at ih ⊢
      refine e_iload_3 dX4_spreads_88 rfl ?_
      refine e_bipush (v := nI 8) dX4_spreads_89 rfl bc_8 ?_
      refine e_nc_ge_f dX4_spreads_91 rfl ⟨166, by decide⟩ (by omega) (by omega) hr ?_
      refine e_iconst (v := nI 0) dX4_spreads_94 rfl ic_0 ?_
      refine e_istore_4 dX4_spreads_95 rfl (Nat.le_of_ble_eq_true rfl) rfl ?_
      refine loop_up (P := fun o => Ev l kX4_spreads (gM 86 0 0 (.inl none) (setM M (spS oc rg mc lo hi mb ob more (M.1 81)))) (rmd 1 0 0) 86 0 0 97 [some (.ref 64), some (.int ob), some (.int more), some (.int (nI r)), some (.int (nI o)), none] [] (setM M (itF (spO mc mb) S o))) ?_ (fun o ho ih2 => ?_) 0 (Nat.zero_le oc)
      · refine e_iload_4 dX4_spreads_97 rfl ?_
        refine e_aload_0 dX4_spreads_99 rfl ?_
        refine e_getI dX4_spreads_100 rfl lkX4_72 rfl ps_64 (by decide) (by decide) ?_
        refine e_topi (nI oc) h2 ?_
        refine e_nc_ge_t (tgt := 160) dX4_spreads_103 (by decide) (by omega) (by omega) (Nat.le_refl _) ?_
        refine e_iinc_3 (v := nI (r + 1)) dX4_spreads_160 rfl (Nat.le_of_ble_eq_true rfl) rfl (nI_1 r) ?_
        refine e_goto (tgt := 88) dX4_spreads_163 (by decide) ?_
        refine e_weak (weak_c (weak_c (weak_c (weak_c (weak_n weak_nil))))) ?_
        exact ih
      · rw [itF_s, spO] at ih2
        generalize itF (spO mc mb) S o = S2 at ih2 ⊢
        have hc := (h5 o ho).2
        refine e_iload_4 dX4_spreads_97 rfl ?_
        refine e_aload_0 dX4_spreads_99 rfl ?_
        refine e_getI dX4_spreads_100 rfl lkX4_72 rfl ps_64 (by decide) (by decide) ?_
        refine e_topi (nI oc) h2 ?_
        refine e_nc_ge_f dX4_spreads_103 rfl ⟨160, by decide⟩ (by omega) (by omega) ho ?_
        refine e_iconst (v := nI 0) dX4_spreads_106 rfl ic_0 ?_
        refine e_istore_5 dX4_spreads_107 rfl (Nat.le_of_ble_eq_true rfl) rfl ?_
        refine loop_up (P := fun k => Ev l kX4_spreads (gM 86 0 0 (.inl none) (setM M (spS oc rg mc lo hi mb ob more (M.1 81)))) (rmd 1 0 0) 86 0 0 109 [some (.ref 64), some (.int ob), some (.int more), some (.int (nI r)), some (.int (nI o)), some (.int (nI k))] [] (setM M (itF (spK mb o) S2 k))) ?_ (fun k hk ih3 => ?_) 0 (Nat.zero_le (mc o))
        · refine e_iload_5 dX4_spreads_109 rfl ?_
          refine e_aload_0 dX4_spreads_111 rfl ?_
          refine e_getR dX4_spreads_112 rfl lkX4_19 rfl ps_64 (by decide) (by decide) (mr_of hmr rfl) ?_
          refine e_iload_4 dX4_spreads_115 rfl ?_
          refine e_iald dX4_spreads_117 rfl ps_68 (by decide) rfl (by omega) ?_
          refine e_topi (nI (mc o)) (h5 o ho).1 ?_
          refine e_nc_ge_t (tgt := 154) dX4_spreads_118 (by decide) (by omega) (by omega) (Nat.le_refl _) ?_
          refine e_iinc_4 (v := nI (o + 1)) dX4_spreads_154 rfl (Nat.le_of_ble_eq_true rfl) rfl (nI_1 o) ?_
          refine e_goto (tgt := 97) dX4_spreads_157 (by decide) ?_
          refine e_weak (weak_c (weak_c (weak_c (weak_c (weak_c (weak_n weak_nil)))))) ?_
          exact ih2
        · have hb := (h6 o k ho hk).2
          refine e_iload_5 dX4_spreads_109 rfl ?_
          refine e_aload_0 dX4_spreads_111 rfl ?_
          refine e_getR dX4_spreads_112 rfl lkX4_19 rfl ps_64 (by decide) (by decide) (mr_of hmr rfl) ?_
          refine e_iload_4 dX4_spreads_115 rfl ?_
          refine e_iald dX4_spreads_117 rfl ps_68 (by decide) rfl (by omega) ?_
          refine e_topi (nI (mc o)) (h5 o ho).1 ?_
          refine e_nc_ge_f dX4_spreads_118 rfl ⟨154, by decide⟩ (by omega) (by omega) hk ?_
          refine e_aload_0 dX4_spreads_121 rfl ?_
          refine e_getR dX4_spreads_122 rfl lkX4_59 rfl ps_64 (by decide) (by decide) (mr_of hmr rfl) ?_
          refine e_iload_4 dX4_spreads_125 rfl ?_
          refine e_dup2 dX4_spreads_127 rfl rfl rfl ?_
          refine e_iald dX4_spreads_128 rfl ps_81 (by decide) rfl (by omega) ?_
          refine e_aload_0 dX4_spreads_129 rfl ?_
          refine e_getR dX4_spreads_130 rfl lkX4_59 rfl ps_64 (by decide) (by decide) (mr_of hmr rfl) ?_
          refine e_aload_0 dX4_spreads_133 rfl ?_
          refine e_getR dX4_spreads_134 rfl lkX4_22 rfl ps_64 (by decide) (by decide) (mr_of hmr rfl) ?_
          refine e_iconst (v := nI 2) dX4_spreads_137 rfl ic_2 ?_
          refine e_iload_4 dX4_spreads_138 rfl ?_
          refine e_imul dX4_spreads_140 rfl ?_
          refine e_topi (nI (2 * o)) (pk_mul _ _) ?_
          refine e_iload_5 dX4_spreads_141 rfl ?_
          refine e_iadd dX4_spreads_143 rfl ?_
          refine e_topi (nI (2 * o + k)) (nI_add _ _) ?_
          refine e_iald dX4_spreads_144 rfl ps_69 (by decide) rfl (by omega) ?_
          refine e_topi (nI (mb o k)) (h6 o k ho hk).1 ?_
          refine e_iald dX4_spreads_145 rfl ps_81 (by decide) rfl (by omega) ?_
          refine e_ior dX4_spreads_146 rfl ?_
          refine e_iast dX4_spreads_147 rfl ps_81 (by decide) rfl (by omega) ?_
          refine e_iinc_5 (v := nI (k + 1)) dX4_spreads_148 rfl (Nat.le_of_ble_eq_true rfl) rfl (nI_1 k) ?_
          refine e_goto (tgt := 109) dX4_spreads_151 (by decide) ?_
          exact e_mem setM_up ih3
  · rw [itF_s, sp1] at ih
    generalize itF (sp1 rg lo hi ob more) (M.1 81) i = S at ih ⊢
    have hr := (h3 i hit).2
    have H : ∀ k, k ≤ rg i → Ev l kX4_spreads (gM 86 0 0 (.inl none) (setM M (spS oc rg mc lo hi mb ob more (M.1 81)))) (rmd 1 0 0) 86 0 0 29 [some (.ref 64), some (.int ob), some (.int more), some (.int (nI i)), some (.int (nI k)), none] [] (setM M (itF (sp1K lo hi i) (upd S i (if nI i = ob then more else nI 0)) k)) := by
      refine loop_up ?_ (fun k hk ih2 => ?_)
      · refine e_iload_4 dX4_spreads_29 rfl ?_
        refine e_aload_0 dX4_spreads_31 rfl ?_
        refine e_getR dX4_spreads_32 rfl lkX4_7 rfl ps_64 (by decide) (by decide) (mr_of hmr rfl) ?_
        refine e_iload_3 dX4_spreads_35 rfl ?_
        refine e_iald dX4_spreads_36 rfl ps_65 (by decide) rfl (by omega) ?_
        refine e_topi (nI (rg i)) (h3 i hit).1 ?_
        refine e_nc_ge_t (tgt := 80) dX4_spreads_37 (by decide) (by omega) (by omega) (Nat.le_refl _) ?_
        refine e_iinc_3 (v := nI (i + 1)) dX4_spreads_80 rfl (Nat.le_of_ble_eq_true rfl) rfl (nI_1 i) ?_
        refine e_goto (tgt := 2) dX4_spreads_83 (by decide) ?_
        refine e_weak (weak_c (weak_c (weak_c (weak_c (weak_n weak_nil))))) ?_
        exact ih
      · obtain ⟨-, -, hl, hh⟩ := h4 i k hit hk
        refine e_iload_4 dX4_spreads_29 rfl ?_
        refine e_aload_0 dX4_spreads_31 rfl ?_
        refine e_getR dX4_spreads_32 rfl lkX4_7 rfl ps_64 (by decide) (by decide) (mr_of hmr rfl) ?_
        refine e_iload_3 dX4_spreads_35 rfl ?_
        refine e_iald dX4_spreads_36 rfl ps_65 (by decide) rfl (by omega) ?_
        refine e_topi (nI (rg i)) (h3 i hit).1 ?_
        refine e_nc_ge_f dX4_spreads_37 rfl ⟨80, by decide⟩ (by omega) (by omega) hk ?_
        refine e_aload_0 dX4_spreads_40 rfl ?_
        refine e_getR dX4_spreads_41 rfl lkX4_59 rfl ps_64 (by decide) (by decide) (mr_of hmr rfl) ?_
        refine e_iload_3 dX4_spreads_44 rfl ?_
        refine e_dup2 dX4_spreads_45 rfl rfl rfl ?_
        refine e_iald dX4_spreads_46 rfl ps_81 (by decide) rfl (by omega) ?_
        refine e_aload_0 dX4_spreads_47 rfl ?_
        refine e_getR dX4_spreads_48 rfl lkX4_13 rfl ps_64 (by decide) (by decide) (mr_of hmr rfl) ?_
        refine e_iconst (v := nI 3) dX4_spreads_51 rfl ic_3 ?_
        refine e_iload_3 dX4_spreads_52 rfl ?_
        refine e_imul dX4_spreads_53 rfl ?_
        refine e_topi (nI (3 * i)) (pk_mul _ _) ?_
        refine e_iload_4 dX4_spreads_54 rfl ?_
        refine e_iadd dX4_spreads_56 rfl ?_
        refine e_topi (nI (3 * i + k)) (nI_add _ _) ?_
        refine e_iald dX4_spreads_57 rfl ps_66 (by decide) rfl (by omega) ?_
        refine e_topi (nI (lo i k)) (h4 i k hit hk).1 ?_
        refine e_aload_0 dX4_spreads_58 rfl ?_
        refine e_getR dX4_spreads_59 rfl lkX4_16 rfl ps_64 (by decide) (by decide) (mr_of hmr rfl) ?_
        refine e_iconst (v := nI 3) dX4_spreads_62 rfl ic_3 ?_
        refine e_iload_3 dX4_spreads_63 rfl ?_
        refine e_imul dX4_spreads_64 rfl ?_
        refine e_topi (nI (3 * i)) (pk_mul _ _) ?_
        refine e_iload_4 dX4_spreads_65 rfl ?_
        refine e_iadd dX4_spreads_67 rfl ?_
        refine e_topi (nI (3 * i + k)) (nI_add _ _) ?_
        refine e_iald dX4_spreads_68 rfl ps_67 (by decide) rfl (by omega) ?_
        refine e_topi (nI (hi i k)) (h4 i k hit hk).2.1 ?_
        refine e_callS dX4_spreads_69 rfl csX4_86 (m_span hf hl hh) rfl rfl ⟨Nat.le_of_ble_eq_true rfl, Nat.le_of_ble_eq_true rfl⟩ ⟨Nat.le_of_ble_eq_true rfl, Nat.le_of_ble_eq_true rfl⟩ rfl rfl (Nat.le_of_ble_eq_true rfl) ?_
        refine e_ior dX4_spreads_72 rfl ?_
        refine e_iast dX4_spreads_73 rfl ps_81 (by decide) rfl (by omega) ?_
        refine e_iinc_4 (v := nI (k + 1)) dX4_spreads_74 rfl (Nat.le_of_ble_eq_true rfl) rfl (nI_1 k) ?_
        refine e_goto (tgt := 29) dX4_spreads_77 (by decide) ?_
        exact e_mem setM_up ih2
    refine e_iload_3 dX4_spreads_2 rfl ?_
    refine e_aload_0 dX4_spreads_3 rfl ?_
    refine e_getI dX4_spreads_4 rfl lkX4_72 rfl ps_64 (by decide) (by decide) ?_
    refine e_topi (nI oc) h2 ?_
    refine e_nc_ge_f dX4_spreads_7 rfl ⟨86, by decide⟩ (by omega) (by omega) hit ?_
    refine e_aload_0 dX4_spreads_10 rfl ?_
    refine e_getR dX4_spreads_11 rfl lkX4_59 rfl ps_64 (by decide) (by decide) (mr_of hmr rfl) ?_
    refine e_iload_3 dX4_spreads_14 rfl ?_
    refine e_iload_3 dX4_spreads_15 rfl ?_
    by_cases hz : nI i = ob
    · have H0 := H 0 (Nat.zero_le _)
      rw [itF_0, if_pos hz] at H0
      refine e_iload_1 dX4_spreads_16 rfl ?_
      refine e_ic_ne_f dX4_spreads_17 rfl ⟨24, by decide⟩ hz ?_
      refine e_iload_2 dX4_spreads_20 rfl ?_
      refine e_goto (tgt := 25) dX4_spreads_21 (by decide) ?_
      refine e_iast dX4_spreads_25 rfl ps_81 (by decide) rfl (by omega) ?_
      refine e_iconst (v := nI 0) dX4_spreads_26 rfl ic_0 ?_
      refine e_istore_4 dX4_spreads_27 rfl (Nat.le_of_ble_eq_true rfl) rfl ?_
      exact e_mem setM_up H0
    · have H0 := H 0 (Nat.zero_le _)
      rw [itF_0, if_neg hz] at H0
      refine e_iload_1 dX4_spreads_16 rfl ?_
      refine e_ic_ne_t (tgt := 24) dX4_spreads_17 (by decide) hz ?_
      refine e_iconst (v := nI 0) dX4_spreads_24 rfl ic_0 ?_
      refine e_iast dX4_spreads_25 rfl ps_81 (by decide) rfl (by omega) ?_
      refine e_iconst (v := nI 0) dX4_spreads_26 rfl ic_0 ?_
      refine e_istore_4 dX4_spreads_27 rfl (Nat.le_of_ble_eq_true rfl) rfl ?_
      exact e_mem setM_up H0
theorem m_dependents {l : Launch} (hf : l.stackTraces = false) {M : pmM} {od : Nat → Nat} (hmr : M.2.1 = mrC od) {oc : Nat} {rg mc : Nat → Nat} {lo hi mb : Nat → Nat → Nat} (hO : MO M oc rg mc lo hi mb) {x : Nat} (hx : x < oc) : Sp l kX4_dependents 86 0 0 0 [.ref 64, .int (nI x)] M (.inl (some (.int (dpS oc mc mb x)))) M := by
  refine sp_of hf (by decide +kernel) (Nat.le_of_ble_eq_true rfl) (by intro v hv; simp at hv; rcases hv with rfl | rfl <;> rfl) rfl ?_
  obtain ⟨h1, h2, h3, h4, h5, h6⟩ := hO
  refine e_iconst (v := nI 1) dX4_dependents_0 rfl ic_1 ?_
  refine e_iload_1 dX4_dependents_1 rfl ?_
  refine e_ishl dX4_dependents_2 rfl ?_
  refine e_istore_2 dX4_dependents_3 rfl (Nat.le_of_ble_eq_true rfl) rfl ?_
  refine e_iconst (v := nI 0) dX4_dependents_4 rfl ic_0 ?_
  refine e_istore_3 dX4_dependents_5 rfl (Nat.le_of_ble_eq_true rfl) rfl ?_
  refine loop_up (P := fun r => Ev l kX4_dependents (gM 86 0 0 (.inl (some (.int (dpS oc mc mb x)))) M) (rmd 0 0 0) 86 0 0 6 [some (.ref 64), some (.int (nI x)), some (.int (itF (dpR oc mc mb) (nI 1 <<< (nI x &&& 31)) r)), some (.int (nI r)), none, none] [] M) ?_ (fun r hr ih => ?_) 0 (Nat.zero_le 8)
  · refine e_iload_3 dX4_dependents_6 rfl ?_
    refine e_bipush (v := nI 8) dX4_dependents_7 rfl bc_8 ?_
    refine e_nc_ge_t (tgt := 88) dX4_dependents_9 (by decide) (by omega) (by omega) (Nat.le_refl _) ?_
    refine e_iload_2 dX4_dependents_88 rfl ?_
    exact e_iret dX4_dependents_89 rfl rfl (Nat.le_of_ble_eq_true rfl) (Nat.le_of_ble_eq_true rfl) rfl rfl
  · rw [itF_s, dpR] at ih
    generalize itF (dpR oc mc mb) (nI 1 <<< (nI x &&& 31)) r = s at ih ⊢
    refine e_iload_3 dX4_dependents_6 rfl ?_
    refine e_bipush (v := nI 8) dX4_dependents_7 rfl bc_8 ?_
    refine e_nc_ge_f dX4_dependents_9 rfl ⟨88, by decide⟩ (by omega) (by omega) hr ?_
    refine e_iconst (v := nI 0) dX4_dependents_12 rfl ic_0 ?_
    refine e_istore_4 dX4_dependents_13 rfl (Nat.le_of_ble_eq_true rfl) rfl ?_
    refine loop_up (P := fun o => Ev l kX4_dependents (gM 86 0 0 (.inl (some (.int (dpS oc mc mb x)))) M) (rmd 0 0 0) 86 0 0 15 [some (.ref 64), some (.int (nI x)), some (.int (itF (dpO mc mb) s o)), some (.int (nI r)), some (.int (nI o)), none] [] M) ?_ (fun o ho ih2 => ?_) 0 (Nat.zero_le oc)
    · refine e_iload_4 dX4_dependents_15 rfl ?_
      refine e_aload_0 dX4_dependents_17 rfl ?_
      refine e_getI dX4_dependents_18 rfl lkX4_72 rfl ps_64 (by decide) (by decide) ?_
      refine e_topi (nI oc) h2 ?_
      refine e_nc_ge_t (tgt := 82) dX4_dependents_21 (by decide) (by omega) (by omega) (Nat.le_refl _) ?_
      refine e_iinc_3 (v := nI (r + 1)) dX4_dependents_82 rfl (Nat.le_of_ble_eq_true rfl) rfl (nI_1 r) ?_
      refine e_goto (tgt := 6) dX4_dependents_85 (by decide) ?_
      refine e_weak (weak_c (weak_c (weak_c (weak_c (weak_n weak_nil))))) ?_
      exact ih
    · rw [itF_s, dpO] at ih2
      generalize itF (dpO mc mb) s o = s2 at ih2 ⊢
      have hc := (h5 o ho).2
      refine e_iload_4 dX4_dependents_15 rfl ?_
      refine e_aload_0 dX4_dependents_17 rfl ?_
      refine e_getI dX4_dependents_18 rfl lkX4_72 rfl ps_64 (by decide) (by decide) ?_
      refine e_topi (nI oc) h2 ?_
      refine e_nc_ge_f dX4_dependents_21 rfl ⟨82, by decide⟩ (by omega) (by omega) ho ?_
      refine e_iconst (v := nI 0) dX4_dependents_24 rfl ic_0 ?_
      refine e_istore_5 dX4_dependents_25 rfl (Nat.le_of_ble_eq_true rfl) rfl ?_
      refine loop_up (P := fun k => Ev l kX4_dependents (gM 86 0 0 (.inl (some (.int (dpS oc mc mb x)))) M) (rmd 0 0 0) 86 0 0 27 [some (.ref 64), some (.int (nI x)), some (.int (itF (dpK mb o) s2 k)), some (.int (nI r)), some (.int (nI o)), some (.int (nI k))] [] M) ?_ (fun k hk ih3 => ?_) 0 (Nat.zero_le (mc o))
      · refine e_iload_5 dX4_dependents_27 rfl ?_
        refine e_aload_0 dX4_dependents_29 rfl ?_
        refine e_getR dX4_dependents_30 rfl lkX4_19 rfl ps_64 (by decide) (by decide) (mr_of hmr rfl) ?_
        refine e_iload_4 dX4_dependents_33 rfl ?_
        refine e_iald dX4_dependents_35 rfl ps_68 (by decide) rfl (by omega) ?_
        refine e_topi (nI (mc o)) (h5 o ho).1 ?_
        refine e_nc_ge_t (tgt := 76) dX4_dependents_36 (by decide) (by omega) (by omega) (Nat.le_refl _) ?_
        refine e_iinc_4 (v := nI (o + 1)) dX4_dependents_76 rfl (Nat.le_of_ble_eq_true rfl) rfl (nI_1 o) ?_
        refine e_goto (tgt := 15) dX4_dependents_79 (by decide) ?_
        refine e_weak (weak_c (weak_c (weak_c (weak_c (weak_c (weak_n weak_nil)))))) ?_
        exact ih2
      · have hb := (h6 o k ho hk).2
        rw [itF_s, dpK] at ih3
        generalize itF (dpK mb o) s2 k = s3 at ih3 ⊢
        cases hz : hasb s3 (mb o k) with
          | true =>
            rw [hz] at ih3
            rw [if_pos rfl] at ih3
            refine e_iload_5 dX4_dependents_27 rfl ?_
            refine e_aload_0 dX4_dependents_29 rfl ?_
            refine e_getR dX4_dependents_30 rfl lkX4_19 rfl ps_64 (by decide) (by decide) (mr_of hmr rfl) ?_
            refine e_iload_4 dX4_dependents_33 rfl ?_
            refine e_iald dX4_dependents_35 rfl ps_68 (by decide) rfl (by omega) ?_
            refine e_topi (nI (mc o)) (h5 o ho).1 ?_
            refine e_nc_ge_f dX4_dependents_36 rfl ⟨76, by decide⟩ (by omega) (by omega) hk ?_
            refine e_iload_2 dX4_dependents_39 rfl ?_
            refine e_iload_2 dX4_dependents_40 rfl ?_
            refine e_aload_0 dX4_dependents_41 rfl ?_
            refine e_getR dX4_dependents_42 rfl lkX4_22 rfl ps_64 (by decide) (by decide) (mr_of hmr rfl) ?_
            refine e_iconst (v := nI 2) dX4_dependents_45 rfl ic_2 ?_
            refine e_iload_4 dX4_dependents_46 rfl ?_
            refine e_imul dX4_dependents_48 rfl ?_
            refine e_topi (nI (2 * o)) (pk_mul _ _) ?_
            refine e_iload_5 dX4_dependents_49 rfl ?_
            refine e_iadd dX4_dependents_51 rfl ?_
            refine e_topi (nI (2 * o + k)) (nI_add _ _) ?_
            refine e_iald dX4_dependents_52 rfl ps_69 (by decide) rfl (by omega) ?_
            refine e_topi (nI (mb o k)) (h6 o k ho hk).1 ?_
            refine e_ishr dX4_dependents_53 rfl ?_
            refine e_iconst (v := nI 1) dX4_dependents_54 rfl ic_1 ?_
            refine e_iand dX4_dependents_55 rfl ?_
            refine e_iconst (v := nI 1) dX4_dependents_56 rfl ic_1 ?_
            refine e_ic_ne_f dX4_dependents_57 rfl ⟨67, by decide⟩ (shr_1 s3 (by omega) hz) ?_
            refine e_iconst (v := nI 1) dX4_dependents_60 rfl ic_1 ?_
            refine e_iload_4 dX4_dependents_61 rfl ?_
            refine e_ishl dX4_dependents_63 rfl ?_
            refine e_goto (tgt := 68) dX4_dependents_64 (by decide) ?_
            refine e_ior dX4_dependents_68 rfl ?_
            refine e_istore_2 dX4_dependents_69 rfl (Nat.le_of_ble_eq_true rfl) rfl ?_
            refine e_iinc_5 (v := nI (k + 1)) dX4_dependents_70 rfl (Nat.le_of_ble_eq_true rfl) rfl (nI_1 k) ?_
            refine e_goto (tgt := 27) dX4_dependents_73 (by decide) ?_
            exact ih3
          | false =>
            rw [hz] at ih3
            rw [if_neg (by decide)] at ih3
            refine e_iload_5 dX4_dependents_27 rfl ?_
            refine e_aload_0 dX4_dependents_29 rfl ?_
            refine e_getR dX4_dependents_30 rfl lkX4_19 rfl ps_64 (by decide) (by decide) (mr_of hmr rfl) ?_
            refine e_iload_4 dX4_dependents_33 rfl ?_
            refine e_iald dX4_dependents_35 rfl ps_68 (by decide) rfl (by omega) ?_
            refine e_topi (nI (mc o)) (h5 o ho).1 ?_
            refine e_nc_ge_f dX4_dependents_36 rfl ⟨76, by decide⟩ (by omega) (by omega) hk ?_
            refine e_iload_2 dX4_dependents_39 rfl ?_
            refine e_iload_2 dX4_dependents_40 rfl ?_
            refine e_aload_0 dX4_dependents_41 rfl ?_
            refine e_getR dX4_dependents_42 rfl lkX4_22 rfl ps_64 (by decide) (by decide) (mr_of hmr rfl) ?_
            refine e_iconst (v := nI 2) dX4_dependents_45 rfl ic_2 ?_
            refine e_iload_4 dX4_dependents_46 rfl ?_
            refine e_imul dX4_dependents_48 rfl ?_
            refine e_topi (nI (2 * o)) (pk_mul _ _) ?_
            refine e_iload_5 dX4_dependents_49 rfl ?_
            refine e_iadd dX4_dependents_51 rfl ?_
            refine e_topi (nI (2 * o + k)) (nI_add _ _) ?_
            refine e_iald dX4_dependents_52 rfl ps_69 (by decide) rfl (by omega) ?_
            refine e_topi (nI (mb o k)) (h6 o k ho hk).1 ?_
            refine e_ishr dX4_dependents_53 rfl ?_
            refine e_iconst (v := nI 1) dX4_dependents_54 rfl ic_1 ?_
            refine e_iand dX4_dependents_55 rfl ?_
            refine e_iconst (v := nI 1) dX4_dependents_56 rfl ic_1 ?_
            refine e_ic_ne_t (tgt := 67) dX4_dependents_57 (by decide) (shr_n1 s3 (by omega) hz) ?_
            refine e_iconst (v := nI 0) dX4_dependents_67 rfl ic_0 ?_
            refine e_ior dX4_dependents_68 rfl ?_
            refine e_topi s3 (or_0 s3) ?_
            refine e_istore_2 dX4_dependents_69 rfl (Nat.le_of_ble_eq_true rfl) rfl ?_
            refine e_iinc_5 (v := nI (k + 1)) dX4_dependents_70 rfl (Nat.le_of_ble_eq_true rfl) rfl (nI_1 k) ?_
            refine e_goto (tgt := 27) dX4_dependents_73 (by decide) ?_
            exact ih3
