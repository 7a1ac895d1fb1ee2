/-! ===== values of objects, what rules match, the main shadow ===== -/
theorem hasb_ext {x y : Int32} (h : ∀ v, v < 32 → hasb x v = hasb y v) : x = y := by
  apply Int32.toBitVec_inj.mp
  apply BitVec.eq_of_getLsbD_eq
  intro i hi
  exact h i hi
theorem hasb_orN (f : Nat → Int32) (v : Nat) : ∀ n, (hasb (orN f n) v = true ↔ ∃ k, k < n ∧ hasb (f k) v = true)
  | 0 => by
    constructor
    · intro h; rw [orN, hasb_n0] at h; exact Bool.noConfusion h
    · rintro ⟨k, h, -⟩; exact absurd h (Nat.not_lt_zero k)
  | n + 1 => by
    rw [orN, hasb_or, Bool.or_eq_true, hasb_orN f v n]
    constructor
    · rintro (⟨k, h1, h2⟩ | h)
      · exact ⟨k, by omega, h2⟩
      · exact ⟨n, by omega, h⟩
    · rintro ⟨k, h1, h2⟩
      by_cases e : k = n
      · subst e; exact Or.inr h2
      · exact Or.inl ⟨k, by omega, h2⟩
section OBJ
variable {M : pmM} {oc : Nat} {rg mc : Nat → Nat} {lo hi mb : Nat → Nat → Nat}
end OBJ
section MS
variable {M : pmM} {S : Nat → Int32} {od mo : Nat → Nat} {rc : Nat}
theorem pb_nat (j k : Nat) : pbE M j k = nI (cntN (hasb (M.1 (33 + 3 * j) 0 &&& M.1 (33 + 3 * k) 0)) 32 * cntN (hasb (M.1 (33 + 3 * j) 1 &&& M.1 (33 + 3 * k) 1)) 32 * cntN (hasb (M.1 (33 + 3 * j) 2 &&& M.1 (33 + 3 * k) 2)) 32) := by
  unfold pbE pkE
  rw [bcE_cnt, bcE_cnt, bcE_cnt, pk_mul, pk_mul]
theorem cnt3_le (a b c : Nat → Bool) : cntN a 32 * cntN b 32 * cntN c 32 ≤ 32768 := Nat.mul_le_mul (Nat.mul_le_mul (cntN_le a 32) (cntN_le b 32)) (cntN_le c 32)
end MS
