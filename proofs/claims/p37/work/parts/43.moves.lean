/-! ===== what a move and a removal change, packet by packet ===== -/
theorem sumN_cons (f : Nat → Nat) : ∀ n, sumN (n + 1) f = f 0 + sumN n (fun i => f (i + 1))
  | 0 => by rw [sumN, sumN, sumN, Nat.zero_add, Nat.add_zero]
  | n + 1 => by rw [sumN, sumN_cons f n, sumN, Nat.add_assoc]
theorem anyB_add (q : Nat → Bool) (m : Nat) : ∀ n, anyB q (m + n) = (anyB q m || anyB (fun i => q (m + i)) n)
  | 0 => by rw [Nat.add_zero]; exact (Bool.or_false _).symm
  | n + 1 => by rw [← Nat.add_assoc, anyB, anyB_add q m n, anyB, Bool.or_assoc]
theorem sumN_0 {f : Nat → Nat} (n : Nat) (h : ∀ i, i < n → f i = 0) : sumN n f = 0 := (sumN_congr n h).trans (sumN_zero n)
theorem sum_first (q ac : Nat → Bool) (d : Bool) : ∀ (k s : Nat), (xor (dcR q ac s k d) d).toNat = sumN k (fun i => (q (s + i) && (xor (ac (s + i)) d && !anyB (fun j => q (s + j)) i)).toNat)
  | 0, s => by rw [dcR, Bool.xor_self]; rfl
  | k + 1, s => by
    rw [sumN_cons, dcR]
    show _ = (q s && (xor (ac s) d && !false)).toNat + _
    by_cases h : q s = true
    · rw [if_pos h, h, sumN_0 k (fun i _ => by rw [anyB_cons]; show (q (s + (i + 1)) && (xor (ac (s + (i + 1))) d && !(q s || anyB (fun j => q (s + (j + 1))) i))).toNat = 0; rw [h, Bool.true_or, Bool.not_true, Bool.and_false, Bool.and_false]; rfl)]
      cases ac s <;> cases d <;> rfl
    · have h0 := Bool.not_eq_true _ |>.mp h
      rw [if_neg h, h0, Bool.false_and, sum_first q ac d k (s + 1)]
      show _ = 0 + _
      rw [Nat.zero_add]
      refine sumN_congr k (fun i _ => ?_)
      rw [anyB_cons]
      show _ = (q (s + (i + 1)) && (xor (ac (s + (i + 1))) d && !(q s || anyB (fun j => q (s + (j + 1))) i))).toNat
      rw [h0, Bool.false_or, show s + 1 + i = s + (i + 1) by omega, anyB_congr (f := fun j => q (s + 1 + j)) (g := fun j => q (s + (j + 1))) i (fun j _ => by rw [show s + 1 + j = s + (j + 1) by omega])]
theorem sum_first2 (q ac : Nat → Bool) (d : Bool) : ∀ (k s : Nat), (xor (dcR q ac s k false) d).toNat = sumN k (fun i => (q (s + i) && (xor (ac (s + i)) d && !anyB (fun j => q (s + j)) i)).toNat) + (d && !anyB (fun j => q (s + j)) k).toNat
  | 0, s => by
    show (xor false d).toNat = 0 + (d && !false).toNat
    cases d <;> rfl
  | k + 1, s => by
    rw [sumN_cons, dcR, anyB_cons]
    show _ = (q s && (xor (ac s) d && !false)).toNat + _ + (d && !(q s || anyB (fun j => q (s + (j + 1))) k)).toNat
    by_cases h : q s = true
    · rw [if_pos h, h, sumN_0 k (fun i _ => by rw [anyB_cons]; show (q (s + (i + 1)) && (xor (ac (s + (i + 1))) d && !(q s || anyB (fun j => q (s + (j + 1))) i))).toNat = 0; rw [h, Bool.true_or, Bool.not_true, Bool.and_false, Bool.and_false]; rfl)]
      cases ac s <;> cases d <;> rfl
    · have h0 := Bool.not_eq_true _ |>.mp h
      have e2 : anyB (fun j => q (s + 1 + j)) k = anyB (fun j => q (s + (j + 1))) k := anyB_congr k (fun j _ => by rw [show s + 1 + j = s + (j + 1) by omega])
      rw [if_neg h, h0, Bool.false_and, sum_first2 q ac d k (s + 1), Bool.false_or, e2]
      show _ = 0 + _ + _
      rw [Nat.zero_add]
      congr 1
      refine sumN_congr k (fun i _ => ?_)
      rw [anyB_cons]
      show _ = (q (s + (i + 1)) && (xor (ac (s + (i + 1))) d && !(q s || anyB (fun j => q (s + (j + 1))) i))).toNat
      rw [h0, Bool.false_or, show s + 1 + i = s + (i + 1) by omega, anyB_congr (f := fun j => q (s + 1 + j)) (g := fun j => q (s + (j + 1))) i (fun j _ => by rw [show s + 1 + j = s + (j + 1) by omega])]
/-- a packet of the rule at fr whose first other rule is the one at i, of another action -/
def mvT (q ac : Nat → Bool) (fr i : Nat) : Bool := q fr && (q i && (xor (ac i) (ac fr) && !anyB (fun p => !decide (p = fr) && q p) i))
theorem any_ne {q : Nat → Bool} {fr n : Nat} (h : n ≤ fr) : anyB (fun p => !decide (p = fr) && q p) n = anyB q n := anyB_congr n (fun i hi => by rw [decide_eq_false (by omega)]; rfl)
theorem any_ne2 {q : Nat → Bool} {fr : Nat} (n : Nat) : anyB (fun p => !decide (p = fr) && q p) (fr + 1 + n) = (anyB q fr || anyB (fun j => q (fr + 1 + j)) n) := by
  rw [anyB_add, anyB, any_ne (Nat.le_refl fr), decide_eq_true rfl]
  show (anyB q fr || false || _) = _
  rw [Bool.or_false, anyB_congr (g := fun j => q (fr + 1 + j)) n (fun i _ => by rw [decide_eq_false (by omega)]; rfl)]
def sgO (fr to : Nat) : Nat → Nat := shO (fun x => x) fr to
theorem shO_sg (mo : Nat → Nat) (fr to p : Nat) : shO mo fr to p = mo (sgO fr to p) := by
  unfold sgO shO
  repeat' split
  all_goals rfl
theorem sg_to (fr to : Nat) : sgO fr to to = fr := if_pos rfl
theorem sg_lo {fr to p : Nat} (h1 : p < fr) (h2 : p < to) : sgO fr to p = p := by unfold sgO shO; rw [if_neg (by omega), if_neg (by omega), if_neg (by omega)]
theorem sg_hi {fr to p : Nat} (h1 : fr < p) (h2 : to < p) : sgO fr to p = p := by unfold sgO shO; rw [if_neg (by omega), if_neg (by omega), if_neg (by omega)]
theorem sg_up {fr to p : Nat} (h1 : to < p) (h2 : p ≤ fr) : sgO fr to p = p - 1 := by unfold sgO shO; rw [if_neg (by omega), if_neg (by omega), if_pos ⟨h1, h2⟩]
theorem sg_dn {fr to p : Nat} (h1 : fr ≤ p) (h2 : p < to) : sgO fr to p = p + 1 := by unfold sgO shO; rw [if_neg (by omega), if_pos ⟨h1, h2⟩]
theorem sg_id (fr : Nat) (p : Nat) : sgO fr fr p = p := by
  rcases Nat.lt_trichotomy p fr with h | h | h
  · exact sg_lo h h
  · subst h; exact sg_to p p
  · exact sg_hi h h
theorem dcR_1 (q ac : Nat → Bool) (s : Nat) (d : Bool) : dcR q ac s 1 d = if q s = true then ac s else d := rfl
theorem mv_up (q ac : Nat → Bool) {fr to n : Nat} (h1 : to < fr) (h2 : fr < n) : (xor (dcR q ac 0 n false) (dcR (fun p => q (sgO fr to p)) (fun p => ac (sgO fr to p)) 0 n false)).toNat = sumN (fr - to) (fun i => (mvT q ac fr (to + i)).toNat) := by
  obtain ⟨k, hk⟩ : ∃ k, fr = to + k := ⟨fr - to, by omega⟩
  obtain ⟨m, hm⟩ : ∃ m, n = to + (k + (1 + m)) := ⟨n - fr - 1, by omega⟩
  have hk0 : fr - to = k := by omega
  have hn' : n = to + (1 + (k + m)) := by omega
  have eA : dcR q ac 0 n false = dcR q ac 0 to (dcR q ac to k (if q fr = true then ac fr else dcR q ac (fr + 1) m false)) := by
    rw [hm, dcR_add, dcR_add, dcR_add, dcR_1, Nat.zero_add, ← hk]
  have eB : dcR (fun p => q (sgO fr to p)) (fun p => ac (sgO fr to p)) 0 n false = dcR q ac 0 to (if q fr = true then ac fr else dcR q ac to k (dcR q ac (fr + 1) m false)) := by
    rw [hn', dcR_add, dcR_add, dcR_add, dcR_1, Nat.zero_add, sg_to, show to + 1 + k = fr + 1 by omega]
    rw [dcR_congr (q := fun p => q (sgO fr to p)) (q' := q) (ac := fun p => ac (sgO fr to p)) (ac' := ac) to 0 0 (fun i hi => by rw [Nat.zero_add, sg_lo (by omega) hi]; exact ⟨rfl, rfl⟩)]
    rw [dcR_congr (q := fun p => q (sgO fr to p)) (q' := q) (ac := fun p => ac (sgO fr to p)) (ac' := ac) k (to + 1) to (fun i hi => by rw [sg_up (by omega) (by omega), show to + 1 + i - 1 = to + i by omega]; exact ⟨rfl, rfl⟩)]
    rw [dcR_congr (q := fun p => q (sgO fr to p)) (q' := q) (ac := fun p => ac (sgO fr to p)) (ac' := ac) m (fr + 1) (fr + 1) (fun i hi => by rw [sg_hi (by omega) (by omega)]; exact ⟨rfl, rfl⟩)]
  rw [eA, eB, dcR_xor, hk0, anyB_congr (f := fun i => q (0 + i)) (g := q) to (fun i _ => by rw [Nat.zero_add])]
  have eT : ∀ i, i < k → mvT q ac fr (to + i) = (q fr && (!anyB q to && (q (to + i) && (xor (ac (to + i)) (ac fr) && !anyB (fun j => q (to + j)) i)))) := fun i hi => by
    unfold mvT
    rw [any_ne (by omega), anyB_add]
    cases q fr <;> cases q (to + i) <;> cases xor (ac (to + i)) (ac fr) <;> cases anyB q to <;> cases anyB (fun j => q (to + j)) i <;> rfl
  rw [sumN_congr k (fun i hi => congrArg Bool.toNat (eT i hi))]
  by_cases hq : q fr = true
  · rw [if_pos hq, if_pos hq, hq]
    cases ha : anyB q to with
    | true => exact (sumN_0 k (fun i _ => rfl)).symm
    | false =>
      show (!false && _).toNat = _
      rw [Bool.not_false, Bool.true_and, sum_first]
      rfl
  · have h0 := Bool.not_eq_true _ |>.mp hq
    rw [if_neg hq, if_neg hq, h0, Bool.xor_self, Bool.and_false]
    exact (sumN_0 k (fun i _ => rfl)).symm
theorem mv_dn (q ac : Nat → Bool) {fr to n : Nat} (h1 : fr ≤ to) (h2 : to < n) : (xor (dcR q ac 0 n false) (dcR (fun p => q (sgO fr to p)) (fun p => ac (sgO fr to p)) 0 n false)).toNat = sumN (to - fr) (fun i => (mvT q ac fr (fr + 1 + i)).toNat) := by
  obtain ⟨k, hk⟩ : ∃ k, to = fr + k := ⟨to - fr, by omega⟩
  obtain ⟨m, hm⟩ : ∃ m, n = fr + (1 + (k + m)) := ⟨n - to - 1, by omega⟩
  have hk0 : to - fr = k := by omega
  have hn' : n = fr + (k + (1 + m)) := by omega
  have eA : dcR q ac 0 n false = dcR q ac 0 fr (if q fr = true then ac fr else dcR q ac (fr + 1) k (dcR q ac (to + 1) m false)) := by
    rw [hm, dcR_add, dcR_add, dcR_add, dcR_1, Nat.zero_add, show fr + 1 + k = to + 1 by omega]
  have eB : dcR (fun p => q (sgO fr to p)) (fun p => ac (sgO fr to p)) 0 n false = dcR q ac 0 fr (dcR q ac (fr + 1) k (if q fr = true then ac fr else dcR q ac (to + 1) m false)) := by
    rw [hn', dcR_add, dcR_add, dcR_add, dcR_1, Nat.zero_add, ← hk, sg_to]
    rw [dcR_congr (q := fun p => q (sgO fr to p)) (q' := q) (ac := fun p => ac (sgO fr to p)) (ac' := ac) fr 0 0 (fun i hi => by rw [Nat.zero_add, sg_lo hi (by omega)]; exact ⟨rfl, rfl⟩)]
    rw [dcR_congr (q := fun p => q (sgO fr to p)) (q' := q) (ac := fun p => ac (sgO fr to p)) (ac' := ac) k fr (fr + 1) (fun i hi => by rw [sg_dn (by omega) (by omega), show fr + i + 1 = fr + 1 + i by omega]; exact ⟨rfl, rfl⟩)]
    rw [dcR_congr (q := fun p => q (sgO fr to p)) (q' := q) (ac := fun p => ac (sgO fr to p)) (ac' := ac) m (to + 1) (to + 1) (fun i hi => by rw [sg_hi (by omega) (by omega)]; exact ⟨rfl, rfl⟩)]
  rw [eA, eB, dcR_xor, hk0, anyB_congr (f := fun i => q (0 + i)) (g := q) fr (fun i _ => by rw [Nat.zero_add])]
  have eT : ∀ i, i < k → mvT q ac fr (fr + 1 + i) = (q fr && (!anyB q fr && (q (fr + 1 + i) && (xor (ac (fr + 1 + i)) (ac fr) && !anyB (fun j => q (fr + 1 + j)) i)))) := fun i hi => by
    unfold mvT
    rw [any_ne2]
    cases q fr <;> cases q (fr + 1 + i) <;> cases xor (ac (fr + 1 + i)) (ac fr) <;> cases anyB q fr <;> cases anyB (fun j => q (fr + 1 + j)) i <;> rfl
  rw [sumN_congr k (fun i hi => congrArg Bool.toNat (eT i hi))]
  by_cases hq : q fr = true
  · rw [if_pos hq, if_pos hq, hq]
    cases ha : anyB q fr with
    | true => exact (sumN_0 k (fun i _ => rfl)).symm
    | false =>
      show (!false && _).toNat = _
      rw [Bool.not_false, Bool.true_and, Bool.xor_comm, sum_first]
      rfl
  · have h0 := Bool.not_eq_true _ |>.mp hq
    rw [if_neg hq, if_neg hq, h0, Bool.xor_self, Bool.and_false]
    exact (sumN_0 k (fun i _ => rfl)).symm
theorem mv_rm (q ac : Nat → Bool) {p n : Nat} (h : p < n) : (xor (dcR q ac 0 n false) (dcR (fun i => if p ≤ i then q (i + 1) else q i) (fun i => if p ≤ i then ac (i + 1) else ac i) 0 (n - 1) false)).toNat = sumN (n - (p + 1)) (fun i => (mvT q ac p (p + 1 + i)).toNat) + (q p && (ac p && !anyB (fun i => !decide (i = p) && q i) n)).toNat := by
  obtain ⟨m, hm⟩ : ∃ m, n = p + (1 + m) := ⟨n - p - 1, by omega⟩
  have hk0 : n - (p + 1) = m := by omega
  have eA : dcR q ac 0 n false = dcR q ac 0 p (if q p = true then ac p else dcR q ac (p + 1) m false) := by
    rw [hm, dcR_add, dcR_add, dcR_1, Nat.zero_add]
  have eB : dcR (fun i => if p ≤ i then q (i + 1) else q i) (fun i => if p ≤ i then ac (i + 1) else ac i) 0 (n - 1) false = dcR q ac 0 p (dcR q ac (p + 1) m false) := by
    rw [show n - 1 = p + m by omega, dcR_add, Nat.zero_add]
    rw [dcR_congr (q' := q) (ac' := ac) p 0 0 (fun i hi => by rw [Nat.zero_add]; show (if p ≤ i then _ else _) = _ ∧ (if p ≤ i then _ else _) = _; rw [if_neg (by omega), if_neg (by omega)]; exact ⟨rfl, rfl⟩)]
    rw [dcR_congr (q' := q) (ac' := ac) m p (p + 1) (fun i hi => by show (if p ≤ p + i then _ else _) = _ ∧ (if p ≤ p + i then _ else _) = _; rw [if_pos (by omega), if_pos (by omega), show p + i + 1 = p + 1 + i by omega]; exact ⟨rfl, rfl⟩)]
  rw [eA, eB, dcR_xor, hk0, anyB_congr (f := fun i => q (0 + i)) (g := q) p (fun i _ => by rw [Nat.zero_add])]
  have eT : ∀ i, i < m → mvT q ac p (p + 1 + i) = (q p && (!anyB q p && (q (p + 1 + i) && (xor (ac (p + 1 + i)) (ac p) && !anyB (fun j => q (p + 1 + j)) i)))) := fun i hi => by
    unfold mvT
    rw [any_ne2]
    cases q p <;> cases q (p + 1 + i) <;> cases xor (ac (p + 1 + i)) (ac p) <;> cases anyB q p <;> cases anyB (fun j => q (p + 1 + j)) i <;> rfl
  rw [sumN_congr m (fun i hi => congrArg Bool.toNat (eT i hi)), show n = p + 1 + m by omega, any_ne2]
  by_cases hq : q p = true
  · rw [if_pos hq, hq]
    cases ha : anyB q p with
    | true =>
      rw [sumN_0 m]
      · cases ac p <;> rfl
      · intro i _; rfl
    | false =>
      show (!false && _).toNat = _
      rw [Bool.not_false, Bool.true_and, Bool.xor_comm, sum_first2]
      rfl
  · have h0 := Bool.not_eq_true _ |>.mp hq
    rw [if_neg hq, h0, Bool.xor_self, Bool.and_false, sumN_0 m]
    · rfl
    · intro i _; rfl
