/-! ===== the tally, in packets ===== -/
def thP (M : pmM) (od : Nat → Nat) (ob fv : Int32) (p u v w : Nat) : Bool := inF M od p && (hasb (thF M od 0 ob fv p) u && (hasb (thF M od 1 ob fv p) v && hasb (thF M od 2 ob fv p) w))
theorem mk_and (M : pmM) (od : Nat → Nat) {rc : Nat} (h8 : rc ≤ 8) (ob fv : Int32) (u v w : Nat) : (mkN M od rc 0 ob fv u &&& mkN M od rc 1 ob fv v &&& mkN M od rc 2 ob fv w) % 256 = ifN (fun p => msP M od p u v w) rc ∧ (mkN M od rc 0 ob fv u &&& mkN M od rc 1 ob fv v &&& mkN M od rc 2 ob fv w) / 256 = ifN (fun p => thP M od ob fv p u v w) rc := by
  unfold mkN
  refine ⟨?_, ?_⟩
  · rw [show (256 : Nat) = 2 ^ 8 from rfl, Nat.and_mod_two_pow, Nat.and_mod_two_pow, show (2 : Nat) ^ 8 = 256 from rfl, mkB_mod _ _ h8, mkB_mod _ _ h8, mkB_mod _ _ h8, ifN_and, ifN_and]
    refine ifN_congr rc (fun p _ => ?_)
    unfold bnF msP maF
    cases inF M od p <;> cases hasb (M.1 (33 + 3 * od p) 0) u <;> cases hasb (M.1 (33 + 3 * od p) 1) v <;> rfl
  · rw [show (256 : Nat) = 2 ^ 8 from rfl, Nat.and_div_two_pow, Nat.and_div_two_pow, show (2 : Nat) ^ 8 = 256 from rfl, mkB_div _ _ h8, mkB_div _ _ h8, mkB_div _ _ h8, ifN_and, ifN_and]
    refine ifN_congr rc (fun p _ => ?_)
    unfold btF thP
    cases inF M od p <;> cases hasb (thF M od 0 ob fv p) u <;> cases hasb (thF M od 1 ob fv p) v <;> rfl
theorem tl_sm3 (M : pmM) (od : Nat → Nat) {rc : Nat} (h8 : rc ≤ 8) (ob fv : Int32) {a b : Nat} (hab : ¬ (a = 8 ∧ b = 8)) : tlN (mkN M od rc 0 ob fv) (mkN M od rc 1 ob fv) (mkN M od rc 2 ob fv) a b = sm3 (fun u v w => (decide (fo (ifN (fun p => msP M od p u v w) rc) = a ∧ fo (ifN (fun p => thP M od ob fv p u v w) rc) = b)).toNat) := by
  unfold tlN sm3
  refine sumN_congr 32 (fun u _ => sumN_congr 32 (fun v _ => ?_))
  have e : ∀ w, tI a b (mkN M od rc 0 ob fv u &&& mkN M od rc 1 ob fv v &&& mkN M od rc 2 ob fv w) = (decide (fo (ifN (fun p => msP M od p u v w) rc) = a ∧ fo (ifN (fun p => thP M od ob fv p u v w) rc) = b)).toNat := fun w => by
    unfold tI
    rw [(mk_and M od h8 ob fv u v w).1, (mk_and M od h8 ob fv u v w).2]
    split
    · rename_i h; rw [decide_eq_true h]; rfl
    · rename_i h; rw [decide_eq_false h]; rfl
  unfold tlC
  by_cases h0 : mkN M od rc 0 ob fv u &&& mkN M od rc 1 ob fv v = 0
  · rw [if_pos h0]
    refine (sumN_0 32 (fun w _ => ?_)).symm
    show (decide (fo (ifN (fun p => msP M od p u v w) rc) = a ∧ fo (ifN (fun p => thP M od ob fv p u v w) rc) = b)).toNat = 0
    rw [← e w, h0, Nat.zero_and]
    unfold tI
    rw [if_neg (fun z => hab ⟨z.1.symm, z.2.symm⟩)]
  · rw [if_neg h0]
    exact sumN_congr 32 (fun w _ => e w)
section SAM
variable {M : pmM} {S : Nat → Int32} {od mo : Nat → Nat} {rc : Nat}
theorem acF_dc (hac : ∀ p, p < rc → M.1 (31 + 3 * od p) 1 = nI 97 ∨ M.1 (31 + 3 * od p) 1 = nI 100) (h8 : rc ≤ 8) (q : Nat → Bool) : decide (acF M od rc (fo (ifN q rc)) = nI 97) = dcR q (acP M od) 0 rc false ∧ (acF M od rc (fo (ifN q rc)) = nI 97 ∨ acF M od rc (fo (ifN q rc)) = nI 100) := by
  unfold acF
  by_cases h : fo (ifN q rc) < rc
  · rw [if_pos h]
    refine ⟨?_, hac _ h⟩
    obtain ⟨h1, h2⟩ := fo_at (ifN_256 q h8) (show fo (ifN q rc) < 8 by omega)
    rw [ifN_tb, Bool.and_eq_true] at h1
    rw [dcR_first (f := fo (ifN q rc)) (fun i hi => by
      have := h2 i hi
      rw [ifN_tb, decide_eq_true (show i < rc by omega), Bool.true_and] at this
      exact this) h1.2 h]
    rfl
  · rw [if_neg h]
    refine ⟨?_, Or.inr rfl⟩
    have h8' : 8 ≤ fo (ifN q rc) := by
      by_cases z : fo (ifN q rc) < 8
      · obtain ⟨h1, -⟩ := fo_at (ifN_256 q h8) z
        rw [ifN_tb, Bool.and_eq_true] at h1
        exact absurd (of_decide_eq_true h1.1) h
      · omega
    rw [dcR_none rc 0 (fun i hi => by
      have := tb_none (ifN_256 q h8) h8' (show i < 8 by omega)
      rw [ifN_tb, decide_eq_true hi, Bool.true_and] at this
      rw [Nat.zero_add]; exact this)]
    decide
def rgC (M : pmM) (od : Nat → Nat) (rc : Nat) (T : Nat → Nat → Nat) (a : Nat) (n : Nat) : Nat := sumN n (fun b => if acF M od rc a = acF M od rc b then 0 else T a b)
theorem crC_sum (Q : pmM) (T : Nat → Nat → Nat) {a : Nat} (ha : a < 9) (hT : ∀ a b, a < 9 → b < 9 → Q.1 (6 + a) b = nI (T a b)) (s : Nat) : ∀ n, n ≤ 9 → crC M Q od rc a n (nI s) = nI (s + rgC M od rc T a n)
  | 0, _ => rfl
  | n + 1, hn => by
    have ih := crC_sum Q T ha hT s n (by omega)
    rw [crC, ih]
    show _ = nI (s + (rgC M od rc T a n + if acF M od rc a = acF M od rc n then 0 else T a n))
    by_cases q : acF M od rc a = acF M od rc n
    · rw [if_pos q, if_pos q, Nat.add_zero]
    · rw [if_neg q, if_neg q, hT a n ha (by omega), nI_add, Nat.add_assoc]
theorem crR_sum (Q : pmM) (T : Nat → Nat → Nat) (hT : ∀ a b, a < 9 → b < 9 → Q.1 (6 + a) b = nI (T a b)) : ∀ n, n ≤ 9 → crR M Q od rc n = nI (sumN n (fun a => rgC M od rc T a 9))
  | 0, _ => rfl
  | n + 1, hn => by
    rw [crR, crR_sum Q T hT n (by omega), crC_sum Q T (by omega) hT _ 9 (Nat.le_refl _)]
    rfl
theorem sum_one (f : Nat → Nat) (x : Nat) : ∀ n, sumN n (fun b => if b = x then f b else 0) = if x < n then f x else 0
  | 0 => rfl
  | n + 1 => by
    rw [sumN, sum_one f x n]
    by_cases e : n = x
    · subst e; rw [if_neg (Nat.lt_irrefl _), if_pos rfl, if_pos (Nat.lt_succ_self _), Nat.zero_add]
    · rw [if_neg e, Nat.add_zero]
      by_cases h : x < n
      · rw [if_pos h, if_pos (by omega)]
      · rw [if_neg h, if_neg (by omega)]
theorem pcn_cnt {m : Nat} (h : m < 256) : pcn m = cntN (fun i => m.testBit i) 8 := (show ∀ m, m < 256 → pcn m = cntN (fun i => m.testBit i) 8 by decide +kernel) m h
theorem pcn_if (b : Nat → Bool) {n : Nat} (h : n ≤ 8) : pcn (ifN b n) = cntN b n := by
  rw [pcn_cnt (ifN_256 b h), show 8 = n + (8 - n) by omega, cntN_add]
  rw [cntN_congr (b' := b) n (fun i hi => by rw [ifN_tb, decide_eq_true hi, Bool.true_and])]
  rw [cntN_congr (b := fun i => (ifN b n).testBit (n + i)) (b' := fun _ => false) (8 - n) (fun i _ => by rw [ifN_tb, decide_eq_false (by omega), Bool.false_and])]
  have : ∀ k, cntN (fun _ => false) k = 0 := fun k => by
    induction k with
    | zero => rfl
    | succ k ih => rw [cntN, ih]; rfl
  rw [this, Nat.add_zero]
end SAM
