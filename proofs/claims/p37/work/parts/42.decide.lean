/-! ===== who decides: positions as bits, and as a sequence ===== -/
theorem ifN_tb (b : Nat → Bool) : ∀ n i, (ifN b n).testBit i = (decide (i < n) && b i)
  | 0, i => by rw [ifN, Nat.zero_testBit]; simp
  | n + 1, i => by
    have ih := ifN_tb b n i
    have hl := ifN_lt b n
    rw [ifN]
    by_cases hb : b n = true
    · rw [if_pos hb, ← or_pow hl, Nat.testBit_or, ih, Nat.testBit_two_pow]
      by_cases e : n = i
      · subst e; rw [hb]; simp
      · by_cases h2 : i < n
        · simp [e, h2, show i < n + 1 by omega]
        · simp [e, h2, show ¬ i < n + 1 by omega]
    · rw [if_neg hb, ih]
      by_cases e : n = i
      · subst e; simp [Bool.not_eq_true _ |>.mp hb]
      · by_cases h2 : i < n
        · simp [h2, show i < n + 1 by omega]
        · simp [h2, show ¬ i < n + 1 by omega]
theorem ifN_and (b b' : Nat → Bool) (n : Nat) : ifN b n &&& ifN b' n = ifN (fun i => b i && b' i) n := by
  apply Nat.eq_of_testBit_eq
  intro i
  rw [Nat.testBit_and, ifN_tb, ifN_tb, ifN_tb]
  cases decide (i < n) <;> cases b i <;> cases b' i <;> rfl
def dcR (q ac : Nat → Bool) : Nat → Nat → Bool → Bool
  | _, 0, d => d
  | s, n + 1, d => if q s = true then ac s else dcR q ac (s + 1) n d
theorem dcR_add (q ac : Nat → Bool) (d : Bool) : ∀ (n m s : Nat), dcR q ac s (n + m) d = dcR q ac s n (dcR q ac (s + n) m d)
  | 0, m, s => by rw [Nat.zero_add]; rfl
  | n + 1, m, s => by
    rw [show n + 1 + m = (n + m) + 1 by omega, dcR, dcR, dcR_add q ac d n m (s + 1), show s + 1 + n = s + (n + 1) by omega]
theorem dcR_congr {q q' ac ac' : Nat → Bool} {d : Bool} : ∀ (n s s' : Nat), (∀ i, i < n → q (s + i) = q' (s' + i) ∧ ac (s + i) = ac' (s' + i)) → dcR q ac s n d = dcR q' ac' s' n d
  | 0, _, _, _ => rfl
  | n + 1, s, s', h => by
    have h0 := h 0 (by omega)
    rw [Nat.add_zero, Nat.add_zero] at h0
    rw [dcR, dcR, h0.1, h0.2, dcR_congr n (s + 1) (s' + 1) (fun i hi => by have := h (i + 1) (by omega); rwa [show s + (i + 1) = s + 1 + i by omega, show s' + (i + 1) = s' + 1 + i by omega] at this)]
theorem anyB_cons (q : Nat → Bool) : ∀ n, anyB q (n + 1) = (q 0 || anyB (fun i => q (i + 1)) n)
  | 0 => by simp [anyB]
  | n + 1 => by
    rw [anyB, anyB_cons q n, anyB, Bool.or_assoc]
theorem dcR_xor (q ac : Nat → Bool) (d d' : Bool) : ∀ (n s : Nat), xor (dcR q ac s n d) (dcR q ac s n d') = (!anyB (fun i => q (s + i)) n && xor d d')
  | 0, s => by rw [dcR, dcR]; rfl
  | n + 1, s => by
    rw [dcR, dcR, anyB_cons]
    show _ = (!(q s || anyB (fun i => q (s + (i + 1))) n) && xor d d')
    by_cases h : q s = true
    · rw [if_pos h, if_pos h, h]; cases ac s <;> rfl
    · rw [if_neg h, if_neg h, dcR_xor q ac d d' n (s + 1), Bool.not_eq_true _ |>.mp h, Bool.false_or, anyB_congr (g := fun i => q (s + (i + 1))) n (fun i _ => by rw [show s + (i + 1) = s + 1 + i by omega])]
theorem fo_iffN {m p : Nat} (hm : m < 256) (hp : p < 8) : decide (fo m = p) = (m.testBit p && !anyB (fun i => m.testBit i) p) := (show ∀ m, m < 256 → ∀ p, p < 8 → decide (fo m = p) = (m.testBit p && !anyB (fun i => m.testBit i) p) by decide +kernel) m hm p hp
theorem fo_ifN (q : Nat → Bool) {n p : Nat} (hn : n ≤ 8) (hp : p < n) : decide (fo (ifN q n) = p) = (q p && !anyB q p) := by
  rw [fo_iffN (ifN_256 _ hn) (by omega), ifN_tb, decide_eq_true hp, Bool.true_and, anyB_congr (g := q) p (fun i hi => by rw [ifN_tb, decide_eq_true (show i < n by omega), Bool.true_and])]
theorem dcR_none {q ac : Nat → Bool} {d : Bool} : ∀ (n s : Nat), (∀ i, i < n → q (s + i) = false) → dcR q ac s n d = d
  | 0, _, _ => rfl
  | n + 1, s, h => by
    have h0 := h 0 (by omega)
    rw [Nat.add_zero] at h0
    rw [dcR, h0, if_neg (by decide), dcR_none n (s + 1) (fun i hi => by have := h (i + 1) (by omega); rwa [show s + (i + 1) = s + 1 + i by omega] at this)]
theorem dcR_first {q ac : Nat → Bool} {d : Bool} {f n : Nat} (h0 : ∀ i, i < f → q i = false) (h1 : q f = true) (hf : f < n) : dcR q ac 0 n d = ac f := by
  rw [show n = f + ((n - f - 1) + 1) by omega, dcR_add, dcR_none f 0 (fun i hi => by rw [Nat.zero_add]; exact h0 i hi), Nat.zero_add, dcR, if_pos h1]
theorem fo_at {m : Nat} (hm : m < 256) (hf : fo m < 8) : m.testBit (fo m) = true ∧ ∀ i, i < fo m → m.testBit i = false := (show ∀ m, m < 256 → fo m < 8 → m.testBit (fo m) = true ∧ ∀ i, i < fo m → m.testBit i = false by decide +kernel) m hm hf
