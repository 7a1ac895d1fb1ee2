/-! ===== FilterRules: the small methods ===== -/
def hasb (x : Int32) (k : Nat) : Bool := x.toBitVec.getLsbD k
def bI (b : Bool) : Int32 := if b = true then nI 1 else nI 0
theorem bI_t {b : Bool} (h : b = true) : bI b = nI 1 := if_pos h
theorem bI_f {b : Bool} (h : b = false) : bI b = nI 0 := if_neg (by rw [h]; decide)
theorem bI_nar (b : Bool) : narrow .boolean (.int (bI b)) = .int (bI b) := by cases b <;> rfl
theorem pmUs_bv (x : Int32) {k : Nat} (hk : k < 32) : (pmUs x (nI k)).toBitVec = x.toBitVec >>> k := by
  unfold pmUs
  apply BitVec.eq_of_toNat_eq
  have h := pk_ushr x (nI k) k (by
    have : ∀ k, k < 32 → (((nI k).toUInt32 &&& Int32.toUInt32 31).toBitVec % 32).toNat = k := by decide +kernel
    exact this k hk)
  rw [h]
  simp [BitVec.toNat_ushiftRight, Nat.shiftRight_eq_div_pow]
theorem hasb_iff (x : Int32) {k : Nat} (hk : k < 32) : pmUs x (nI k) &&& nI 1 = 0 ↔ hasb x k = false := by
  have e : (pmUs x (nI k) &&& nI 1).toBitVec = (x.toBitVec >>> k) &&& 1#32 := by
    rw [Int32.toBitVec_and, pmUs_bv x hk]; rfl
  constructor
  · intro h
    have h2 : (x.toBitVec >>> k) &&& 1#32 = 0#32 := by rw [← e, h]; rfl
    have h3 := congrArg (fun b => b.getLsbD 0) h2
    simpa [hasb] using h3
  · intro h
    apply Int32.toBitVec_inj.mp
    rw [e]
    apply BitVec.eq_of_getLsbD_eq
    intro i hi
    cases i with
    | zero => simpa [hasb] using h
    | succ i => simp
def rgO (lo hi : Nat) : Int32 := ((-1 : Int32) <<< (nI lo &&& 31)) &&& pmUs (-1) (nI 31 - nI hi)

def lastF (last day : Int32) : Bool := decide (last = -1 ∨ day ≤ last)
theorem s_contains {l : Launch} (hf : l.stackTraces = false) {M : pmM} {x : Int32} {k : Nat} (hk : k < 32) : Sp l kX3_contains 64 0 0 0 [.int x, .int (nI k)] M (.inl (some (.int (bI (hasb x k))))) M := by
  refine sp_of hf (by decide +kernel) (Nat.le_of_ble_eq_true rfl) (by intro v hv; simp at hv; rcases hv with rfl | rfl <;> rfl) rfl ?_
  refine e_iload_0 dX3_contains_0 rfl ?_
  refine e_iload_1 dX3_contains_1 rfl ?_
  refine e_iushr dX3_contains_2 rfl ?_
  refine e_iconst (v := nI 1) dX3_contains_3 rfl ic_1 ?_
  refine e_iand dX3_contains_4 rfl ?_
  refine e_if_eq (tgt := 12) dX3_contains_5 (by decide) rfl (fun hc5 => ?_) (fun hc5 => ?_)
  · refine e_iconst (v := nI 0) dX3_contains_12 rfl ic_0 ?_
    exact e_iret dX3_contains_13 rfl rfl (Nat.le_of_ble_eq_true rfl) (Nat.le_of_ble_eq_true rfl) (bI_f ((hasb_iff x hk).mp hc5)).symm rfl
  · refine e_iconst (v := nI 1) dX3_contains_8 rfl ic_1 ?_
    refine e_goto (tgt := 13) dX3_contains_9 (by decide) ?_
    exact e_iret dX3_contains_13 rfl rfl (Nat.le_of_ble_eq_true rfl) (Nat.le_of_ble_eq_true rfl) (bI_t (Bool.not_eq_false _ |>.mp (mt (hasb_iff x hk).mpr hc5))).symm rfl
theorem s_rangeOf {l : Launch} (hf : l.stackTraces = false) {M : pmM} {lo hi : Nat} : Sp l kX3_rangeOf 64 0 0 0 [.int (nI lo), .int (nI hi)] M (.inl (some (.int (rgO lo hi)))) M := by
  refine sp_of hf (by decide +kernel) (Nat.le_of_ble_eq_true rfl) (by intro v hv; simp at hv; rcases hv with rfl | rfl <;> rfl) rfl ?_
  refine e_iconst (v := -1) dX3_rangeOf_0 rfl ic_m1 ?_
  refine e_iload_0 dX3_rangeOf_1 rfl ?_
  refine e_ishl dX3_rangeOf_2 rfl ?_
  refine e_iconst (v := -1) dX3_rangeOf_3 rfl ic_m1 ?_
  refine e_bipush (v := nI 31) dX3_rangeOf_4 rfl bc_31 ?_
  refine e_iload_1 dX3_rangeOf_6 rfl ?_
  refine e_isub dX3_rangeOf_7 rfl ?_
  refine e_iushr dX3_rangeOf_8 rfl ?_
  refine e_iand dX3_rangeOf_9 rfl ?_
  exact e_iret dX3_rangeOf_10 rfl rfl (Nat.le_of_ble_eq_true rfl) (Nat.le_of_ble_eq_true rfl) rfl rfl
theorem s_lastsOn {l : Launch} (hf : l.stackTraces = false) {M : pmM} {j : Nat} (hj : j < 8) {x : Int32} : Sp l kX1_lastsOn 64 0 0 0 [.ref (31 + 3 * j), .int x] M (.inl (some (.int (bI (lastF (M.1 (31 + 3 * j) 3) x))))) M := by
  refine sp_of hf (by decide +kernel) (Nat.le_of_ble_eq_true rfl) (by intro v hv; simp at hv; rcases hv with rfl | rfl <;> rfl) rfl ?_
  refine e_aload_0 dX1_lastsOn_0 rfl ?_
  refine e_getI dX1_lastsOn_1 rfl lkX1_29 rfl (ps_R (by omega)) (by decide) (lt_RU (by omega)) ?_
  refine e_iconst (v := -1) dX1_lastsOn_4 rfl ic_m1 ?_
  refine e_ic_eq (tgt := 16) dX1_lastsOn_5 (by decide) rfl (fun hc5 => ?_) (fun hc5 => ?_)
  · refine e_iconst (v := nI 1) dX1_lastsOn_16 rfl ic_1 ?_
    refine e_goto (tgt := 21) dX1_lastsOn_17 (by decide) ?_
    exact e_iret dX1_lastsOn_21 rfl rfl (Nat.le_of_ble_eq_true rfl) (Nat.le_of_ble_eq_true rfl) (bI_t (by simp [lastF, hc5])).symm rfl
  · refine e_iload_1 dX1_lastsOn_8 rfl ?_
    refine e_aload_0 dX1_lastsOn_9 rfl ?_
    refine e_getI dX1_lastsOn_10 rfl lkX1_29 rfl (ps_R (by omega)) (by decide) (lt_RU (by omega)) ?_
    refine e_ic_gt (tgt := 20) dX1_lastsOn_13 (by decide) rfl (fun hc13 => ?_) (fun hc13 => ?_)
    · refine e_iconst (v := nI 0) dX1_lastsOn_20 rfl ic_0 ?_
      exact e_iret dX1_lastsOn_21 rfl rfl (Nat.le_of_ble_eq_true rfl) (Nat.le_of_ble_eq_true rfl) (bI_f (by simp [lastF, hc5]; exact hc13)).symm rfl
    · refine e_iconst (v := nI 1) dX1_lastsOn_16 rfl ic_1 ?_
      refine e_goto (tgt := 21) dX1_lastsOn_17 (by decide) ?_
      exact e_iret dX1_lastsOn_21 rfl rfl (Nat.le_of_ble_eq_true rfl) (Nat.le_of_ble_eq_true rfl) (bI_t (by simp [lastF]; exact Or.inr (Int32.not_lt.mp hc13))).symm rfl
