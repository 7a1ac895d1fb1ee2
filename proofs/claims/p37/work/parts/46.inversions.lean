/-! ===== the order by hits comes to an end ===== -/
def hiP (M : pmM) (od : Nat → Nat) (p : Nat) : Int32 := M.1 (31 + 3 * od p) 5
def ivN (h : Nat → Int32) (n : Nat) : Nat := sumN n (fun q => cntN (fun p => decide (h p < h q)) q)
theorem ivN_le (h : Nat → Int32) : ∀ n, n ≤ 8 → ivN h n ≤ 28 := fun n hn => by
  have h1 : ∀ m, ivN h m ≤ sumN m (fun q => q) := by
    intro m
    induction m with
    | zero => exact Nat.le_refl 0
    | succ m ih => exact Nat.add_le_add ih (cntN_le _ _)
  have h2 : ∀ m, m < 9 → sumN m (fun q => q) ≤ 28 := by decide
  exact Nat.le_trans (h1 n) (h2 n (by omega))
def swp (i p : Nat) : Nat := if p = i then i + 1 else if p = i + 1 then i else p
theorem sg_swp (i p : Nat) : sgO i (i + 1) p = swp i p := by
  show (if p = i + 1 then i else if i ≤ p ∧ p < i + 1 then p + 1 else if i + 1 < p ∧ p ≤ i then p - 1 else p) = if p = i then i + 1 else if p = i + 1 then i else p
  repeat' split
  all_goals omega
theorem cntN_1 (b : Nat → Bool) : cntN b 1 = (b 0).toNat := by
  rw [cntN_sum, sumN, sumN, Nat.zero_add]
theorem cnt_swap (b : Nat → Bool) (i : Nat) {q : Nat} (hq : i + 1 < q) : cntN (fun p => b (swp i p)) q = cntN b q := by
  obtain ⟨k, rfl⟩ : ∃ k, q = i + (1 + (1 + k)) := ⟨q - i - 2, by omega⟩
  rw [cntN_add, cntN_add, cntN_add, cntN_add, cntN_add, cntN_add, cntN_1, cntN_1, cntN_1, cntN_1]
  rw [cntN_congr (b := fun p => b (swp i p)) (b' := b) i (fun p hp => by unfold swp; rw [if_neg (by omega), if_neg (by omega)])]
  rw [cntN_congr (b := fun j => b (swp i (i + (1 + (1 + j))))) (b' := fun j => b (i + (1 + (1 + j)))) k (fun p hp => by unfold swp; rw [if_neg (by omega), if_neg (by omega)])]
  rw [show swp i (i + 0) = i + (1 + 0) by unfold swp; rw [if_pos (by omega)], show swp i (i + (1 + 0)) = i + 0 by unfold swp; rw [if_neg (by omega), if_pos (by omega)]; rfl]
  omega
theorem iv_swap (h : Nat → Int32) {i n : Nat} (hi : i + 1 < n) (hlt : h i < h (i + 1)) : ivN (fun p => h (swp i p)) n + 1 = ivN h n := by
  obtain ⟨k, rfl⟩ : ∃ k, n = i + (1 + (1 + k)) := ⟨n - i - 2, by omega⟩
  have hs : ∀ p, p ≠ i → p ≠ i + 1 → swp i p = p := fun p h1 h2 => by unfold swp; rw [if_neg h1, if_neg h2]
  have s0 : swp i i = i + 1 := if_pos rfl
  have s1 : swp i (i + 1) = i := by unfold swp; rw [if_neg (by omega), if_pos rfl]
  unfold ivN
  rw [sumN_app, sumN_app, sumN_app, sumN_app, sumN_app, sumN_app]
  have e1 : sumN i (fun q => cntN (fun p => decide (h (swp i p) < h (swp i q))) q) = sumN i (fun q => cntN (fun p => decide (h p < h q)) q) := sumN_congr i (fun q hq => cntN_congr q (fun p hp => by rw [hs p (by omega) (by omega), hs q (by omega) (by omega)]))
  have e2 : sumN k (fun j => cntN (fun p => decide (h (swp i p) < h (swp i (i + (1 + (1 + j)))))) (i + (1 + (1 + j)))) = sumN k (fun j => cntN (fun p => decide (h p < h (i + (1 + (1 + j))))) (i + (1 + (1 + j)))) := sumN_congr k (fun j hj => by
    rw [hs (i + (1 + (1 + j))) (by omega) (by omega)]
    exact cnt_swap (fun p => decide (h p < h (i + (1 + (1 + j))))) i (by omega))
  have c0 : ∀ x, cntN (fun p => decide (h (swp i p) < x)) i = cntN (fun p => decide (h p < x)) i := fun x => cntN_congr i (fun p hp => by rw [hs p (by omega) (by omega)])
  rw [e1, e2]
  have u1 : ∀ f : Nat → Nat, sumN 1 f = f 0 := fun f => by rw [sumN, sumN, Nat.zero_add]
  rw [u1, u1, u1, u1]
  show _ + (cntN (fun p => decide (h (swp i p) < h (swp i i))) i + (cntN (fun p => decide (h (swp i p) < h (swp i (i + 1)))) (i + 1) + _)) + 1 = _ + (cntN (fun p => decide (h p < h i)) i + (cntN (fun p => decide (h p < h (i + 1))) (i + 1) + _))
  rw [cntN_add _ i 1, cntN_add _ i 1, cntN_1, cntN_1, c0, c0, s0, s1]
  show _ + (_ + (_ + (decide (h (swp i i) < h i)).toNat + _)) + 1 = _ + (_ + (_ + (decide (h i < h (i + 1))).toNat + _))
  rw [s0, decide_eq_true hlt, decide_eq_false (show ¬ h (i + 1) < h i from fun z => Int32.lt_irrefl (Int32.lt_trans hlt z))]
  show _ + (_ + (_ + 0 + _)) + 1 = _ + (_ + (_ + 1 + _))
  omega
section SORT
variable {M : pmM} {S : Nat → Int32} {rc : Nat}
theorem hi_sh (od : Nat → Nat) (i : Nat) : hiP M (shO od i (i + 1)) = fun p => hiP M od (swp i p) := funext fun p => by
  unfold hiP
  rw [shO_sg, sg_swp]
theorem swB_lt {od : Nat → Nat} {i : Nat} (h : swB M od i = true) : hiP M od i < hiP M od (i + 1) := by
  unfold swB at h
  exact of_decide_eq_true (Bool.and_eq_true _ _ ▸ h : _ ∧ _).1
theorem sw_iv (od : Nat → Nat) : ∀ i, i + 1 ≤ rc ∨ i = 0 → ivN (hiP M (swF M od i).1) rc + (swF M od i).2 = ivN (hiP M od) rc
  | 0, _ => rfl
  | i + 1, hi => by
    have ih := sw_iv od i (by omega)
    rw [swF]
    by_cases q : swB M (swF M od i).1 i = true
    · rw [if_pos q]
      have := iv_swap (hiP M (swF M od i).1) (i := i) (n := rc) (by omega) (swB_lt q)
      show ivN (hiP M (shO (swF M od i).1 i (i + 1))) rc + ((swF M od i).2 + 1) = _
      rw [hi_sh]
      omega
    · rw [if_neg q]; exact ih
end SORT
