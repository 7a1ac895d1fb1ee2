/-! ===== the class's numbers are the model's ===== -/
def msP (M : pmM) (od : Nat → Nat) (p a b c : Nat) : Bool := inF M od p && maF M (od p) a b c
def acP (M : pmM) (od : Nat → Nat) (p : Nat) : Bool := decide (M.1 (31 + 3 * od p) 1 = nI 97)
theorem anyB_lt (f : Nat → Bool) {p : Nat} : ∀ n, p ≤ n → anyB (fun q => decide (q < p) && f q) n = anyB f p
  | 0, h => by
    have e : p = 0 := Nat.le_zero.mp h
    subst e
    rfl
  | n + 1, h => by
    by_cases e : p = n + 1
    · subst e
      exact anyB_congr (n + 1) (fun i hi => by rw [decide_eq_true hi, Bool.true_and])
    · rw [anyB, anyB_lt f n (by omega), decide_eq_false (by omega), Bool.false_and, Bool.or_false]
theorem dcR_congr2 {q q' ac ac' : Nat → Bool} {d : Bool} : ∀ (n s s' : Nat), (∀ i, i < n → q (s + i) = q' (s' + i) ∧ (q (s + i) = true → ac (s + i) = ac' (s' + i))) → dcR q ac s n d = dcR q' ac' s' n d
  | 0, _, _, _ => rfl
  | n + 1, s, s', h => by
    have h0 := h 0 (by omega)
    rw [Nat.add_zero, Nat.add_zero] at h0
    have ih := dcR_congr2 (d := d) n (s + 1) (s' + 1) (fun i hi => by have := h (i + 1) (by omega); rwa [show s + (i + 1) = s + 1 + i by omega, show s' + (i + 1) = s' + 1 + i by omega] at this)
    rw [dcR, dcR, ← h0.1, ih]
    by_cases hq : q s = true
    · rw [if_pos hq, if_pos hq, h0.2 hq]
    · rw [if_neg hq, if_neg hq]
theorem tb_clr2 {m f p : Nat} (hm : m < 256) (hf : f < 8) (hp : p < 8) : (clr m f).testBit p = (m.testBit p && !decide (p = f)) := (show ∀ m, m < 256 → ∀ f, f < 8 → ∀ p, p < 8 → (clr m f).testBit p = (m.testBit p && !decide (p = f)) by decide +kernel) m hm f hf p hp
theorem noM_if (M : pmM) (od : Nat → Nat) {n : Nat} (hn : n ≤ 8) (a b c : Nat) : noM M od (ifN (inF M od) n) a b c = !anyB (fun q => msP M od q a b c) n := by
  unfold noM
  rw [anyB_congr (g := fun q => decide (q < n) && msP M od q a b c) 8 (fun q _ => by rw [ifN_tb, Bool.and_assoc]; rfl), anyB_lt _ 8 hn]
theorem noM_clr2 (M : pmM) (od : Nat → Nat) {n f : Nat} (hn : n ≤ 8) (hf : f < 8) (a b c : Nat) : noM M od (clr (ifN (inF M od) n) f) a b c = !anyB (fun q => !decide (q = f) && msP M od q a b c) n := by
  unfold noM
  rw [anyB_congr (g := fun q => decide (q < n) && (!decide (q = f) && msP M od q a b c)) 8 (fun q hq => by
    rw [tb_clr2 (ifN_256 _ hn) hf hq, ifN_tb]
    unfold msP
    cases decide (q < n) <;> cases inF M od q <;> cases decide (q = f) <;> rfl), anyB_lt _ 8 hn]
theorem de_cn3 (M : pmM) (od : Nat → Nat) {p : Nat} (hp : p ≤ 8) : deE M od p = nI (cn3 (fun a b c => msP M od p a b c && !anyB (fun q => msP M od q a b c) p)) := by
  unfold deE
  by_cases h : inF M od p = true
  · rw [if_pos h, lb_cnt M od _ _ (ifN_256 _ hp)]
    refine congrArg nI (cn3_congr (fun a b c _ _ _ => ?_))
    rw [noM_if M od hp]
    unfold msP
    rw [h]
    cases maF M (od p) a b c <;> rfl
  · rw [if_neg h, cn3_zero (fun a b c _ _ _ => by unfold msP; rw [Bool.not_eq_true _ |>.mp h, Bool.false_and, Bool.false_and])]
theorem xor_ac {M : pmM} {od : Nat → Nat} {i j : Nat} (hi : M.1 (31 + 3 * od i) 1 = nI 97 ∨ M.1 (31 + 3 * od i) 1 = nI 100) (hj : M.1 (31 + 3 * od j) 1 = nI 97 ∨ M.1 (31 + 3 * od j) 1 = nI 100) : (!decide (M.1 (31 + 3 * od i) 1 = M.1 (31 + 3 * od j) 1)) = xor (acP M od i) (acP M od j) := by
  unfold acP
  rcases hi with hi | hi <;> rcases hj with hj | hj <;> rw [hi, hj] <;> decide
theorem ca_sum (M : pmM) (od : Nat → Nat) {pos a e : Nat} (hp : pos < 8) (he : e ≤ 8) (hac : ∀ p, p = pos ∨ p < e → M.1 (31 + 3 * od p) 1 = nI 97 ∨ M.1 (31 + 3 * od p) 1 = nI 100) : caE M od pos a e = nI (sm3 (fun x y z => sumN (e - a) (fun i => (mvT (fun p => msP M od p x y z) (acP M od) pos (a + i)).toNat))) := by
  unfold caE
  by_cases h : inF M od pos = true
  · rw [if_pos h]
    have H : ∀ n, a + n ≤ e ∨ n = 0 → caS M od pos a n = nI (sm3 (fun x y z => sumN n (fun i => (mvT (fun p => msP M od p x y z) (acP M od) pos (a + i)).toNat))) := by
      intro n
      induction n with
      | zero => intro _; rw [show sm3 (fun x y z => sumN 0 (fun i => (mvT (fun p => msP M od p x y z) (acP M od) pos (a + i)).toNat)) = 0 from sm3_zero]; rfl
      | succ n ih =>
        intro hn
        have hi : a + n < e := by omega
        rw [caS, ih (by omega)]
        show _ = nI (sm3 (fun x y z => sumN n (fun i => (mvT (fun p => msP M od p x y z) (acP M od) pos (a + i)).toNat) + (mvT (fun p => msP M od p x y z) (acP M od) pos (a + n)).toNat))
        rw [sm3_add]
        have hx := xor_ac (M := M) (od := od) (hac (a + n) (Or.inr hi)) (hac pos (Or.inl rfl))
        by_cases hb : caB M od pos (a + n) = true
        · rw [if_pos hb, lb_cnt M od _ _ (clr_lt (ifN_256 _ (by omega))), nI_add]
          refine congrArg nI (congrArg _ (cn3_congr (fun x y z _ _ _ => ?_)))
          unfold caB at hb
          rw [hx] at hb
          obtain ⟨hb1, hb2⟩ := (Bool.and_eq_true _ _ ▸ hb : inF M od (a + n) = true ∧ _)
          rw [noM_clr2 M od (by omega) hp]
          show _ = (msP M od pos x y z && (msP M od (a + n) x y z && (xor (acP M od (a + n)) (acP M od pos) && !anyB (fun p => !decide (p = pos) && msP M od p x y z) (a + n))))
          rw [hb2, show msP M od pos x y z = maF M (od pos) x y z by unfold msP; rw [h]; rfl, show msP M od (a + n) x y z = maF M (od (a + n)) x y z by unfold msP; rw [hb1]; rfl]
          rfl
        · rw [if_neg hb]
          have h0 : sm3 (fun x y z => (mvT (fun p => msP M od p x y z) (acP M od) pos (a + n)).toNat) = 0 := by
            rw [sm3_congr (G := fun _ _ _ => 0) (fun x y z _ _ _ => ?_), sm3_zero]
            unfold caB at hb
            rw [hx] at hb
            have hb' := Bool.not_eq_true _ |>.mp hb
            show (msP M od pos x y z && ((inF M od (a + n) && maF M (od (a + n)) x y z) && (xor (acP M od (a + n)) (acP M od pos) && !anyB (fun p => !decide (p = pos) && msP M od p x y z) (a + n)))).toNat = 0
            clear hb
            generalize anyB (fun p => !decide (p = pos) && msP M od p x y z) (a + n) = w
            generalize msP M od pos x y z = s
            generalize maF M (od (a + n)) x y z = t
            generalize inF M od (a + n) = u at hb'
            generalize xor (acP M od (a + n)) (acP M od pos) = v at hb'
            cases u <;> cases v <;> cases s <;> cases t <;> cases w <;> first | rfl | exact Bool.noConfusion hb'
          rw [h0, Nat.add_zero]
    exact H (e - a) (by omega)
  · rw [if_neg h]
    rw [sm3_congr (G := fun _ _ _ => 0) (fun x y z _ _ _ => sumN_0 _ (fun i _ => by
      show ((inF M od pos && maF M (od pos) x y z) && _).toNat = 0
      rw [Bool.not_eq_true _ |>.mp h, Bool.false_and, Bool.false_and]; rfl)), sm3_zero]
