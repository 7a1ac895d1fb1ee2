/-! ===== counting: bits of a word ===== -/
theorem and_split (a b m k : Nat) (ha : a < 256) (hm : m < 256) : (a + 256 * b) &&& (m + 256 * k) = (a &&& m) + 256 * (b &&& k) := by
  have h1 : ((a + 256 * b) &&& (m + 256 * k)) % 2 ^ 8 = a &&& m := by
    rw [Nat.and_mod_two_pow, show (a + 256 * b) % 2 ^ 8 = a by omega, show (m + 256 * k) % 2 ^ 8 = m by omega]
  have h2 : ((a + 256 * b) &&& (m + 256 * k)) / 2 ^ 8 = b &&& k := by
    rw [Nat.and_div_two_pow, show (a + 256 * b) / 2 ^ 8 = b by omega, show (m + 256 * k) / 2 ^ 8 = k by omega]
  have h3 := Nat.div_add_mod ((a + 256 * b) &&& (m + 256 * k)) (2 ^ 8)
  rw [h1, h2] at h3
  omega
theorem and_4 {a b c d m0 m1 m2 m3 : Nat} (ha : a < 256) (hb : b < 256) (hc : c < 256) (h0 : m0 < 256) (h1 : m1 < 256) (h2 : m2 < 256) : (a + 256 * (b + 256 * (c + 256 * d))) &&& (m0 + 256 * (m1 + 256 * (m2 + 256 * m3))) = (a &&& m0) + 256 * ((b &&& m1) + 256 * ((c &&& m2) + 256 * (d &&& m3))) := by
  rw [and_split _ _ _ _ ha h0, and_split _ _ _ _ hb h1, and_split _ _ _ _ hc h2]
/-- the bits of a byte -/
def pc8 (n : Nat) : Nat := cntN (fun i => n.testBit i) 8
theorem pop_a {n q : Nat} (h : n < 256) (hq : q < 2) : (n / 2 + 128 * q) &&& 85 = n / 2 &&& 85 ∧ n / 2 &&& 85 ≤ n := (show ∀ n, n < 256 → ∀ q, q < 2 → (n / 2 + 128 * q) &&& 85 = n / 2 &&& 85 ∧ n / 2 &&& 85 ≤ n by decide +kernel) n h q hq
def pA (n : Nat) : Nat := n - (n / 2 &&& 85)
def pB (n : Nat) : Nat := (n &&& 51) + (n / 4 &&& 51)
def pC (n : Nat) : Nat := (n + n / 16) &&& 15
theorem pop_b {n q : Nat} (h : n < 256) (hq : q < 4) : (n / 4 + 64 * q) &&& 51 = n / 4 &&& 51 := (show ∀ n, n < 256 → ∀ q, q < 4 → (n / 4 + 64 * q) &&& 51 = n / 4 &&& 51 by decide +kernel) n h q hq
theorem pop_all {n : Nat} (h : n < 256) : pA n < 256 ∧ pB (pA n) % 16 ≤ 4 ∧ pB (pA n) / 16 ≤ 4 ∧ pB (pA n) % 16 + pB (pA n) / 16 = pc8 n := (show ∀ n, n < 256 → pA n < 256 ∧ pB (pA n) % 16 ≤ 4 ∧ pB (pA n) / 16 ≤ 4 ∧ pB (pA n) % 16 + pB (pA n) / 16 = pc8 n by decide +kernel) n h
theorem and15 {n : Nat} (q : Nat) (h : n < 16) (hq : q < 16) : (n + 16 * q) &&& 15 = n := by
  rw [show (15 : Nat) = 2 ^ 4 - 1 from rfl, Nat.and_two_pow_sub_one_eq_mod]; omega
theorem pm_us (n k : Nat) (hn : n < 2 ^ 32) (hk : k < 32) : pmUs (nI n) (nI k) = nI (n / 2 ^ k) := by
  have e : pmUs (nI n) (nI k) = nI (tN (pmUs (nI n) (nI k))) := (nI_tN _).symm
  rw [e]
  congr 1
  unfold tN
  rw [pmUs_bv _ hk, BitVec.toNat_ushiftRight, Nat.shiftRight_eq_div_pow]
  congr 1
  exact tN_nI hn
theorem bcE_bytes {a b c d : Nat} (ha : a < 256) (hb : b < 256) (hc : c < 256) (hd : d < 256) : bcE (nI (a + 256 * (b + 256 * (c + 256 * d)))) = nI (pc8 a + pc8 b + pc8 c + pc8 d) := by
  obtain ⟨a1, a2, a3, a4⟩ := pop_all ha
  obtain ⟨b1, b2, b3, b4⟩ := pop_all hb
  obtain ⟨c1, c2, c3, c4⟩ := pop_all hc
  obtain ⟨d1, d2, d3, d4⟩ := pop_all hd
  have xa := (pop_a ha (show 0 < 2 by decide)).2
  have xb := (pop_a hb (show 0 < 2 by decide)).2
  have xc := (pop_a hc (show 0 < 2 by decide)).2
  have xd := (pop_a hd (show 0 < 2 by decide)).2
  have s1 : pmUs (nI (a + 256 * (b + 256 * (c + 256 * d)))) (nI 1) &&& 1431655765 = nI ((a / 2 &&& 85) + 256 * ((b / 2 &&& 85) + 256 * ((c / 2 &&& 85) + 256 * (d / 2 &&& 85)))) := by
    rw [pm_us _ 1 (by omega) (by decide), show (1431655765 : Int32) = nI (85 + 256 * (85 + 256 * (85 + 256 * 85))) by decide, nI_and (by omega) (by decide),
      show (a + 256 * (b + 256 * (c + 256 * d))) / 2 ^ 1 = (a / 2 + 128 * (b % 2)) + 256 * ((b / 2 + 128 * (c % 2)) + 256 * ((c / 2 + 128 * (d % 2)) + 256 * (d / 2))) by omega,
      and_4 (by omega) (by omega) (by omega) (by decide) (by decide) (by decide), (pop_a ha (by omega)).1, (pop_a hb (by omega)).1, (pop_a hc (by omega)).1]
  have s2 : nI (a + 256 * (b + 256 * (c + 256 * d))) - nI ((a / 2 &&& 85) + 256 * ((b / 2 &&& 85) + 256 * ((c / 2 &&& 85) + 256 * (d / 2 &&& 85)))) = nI (pA a + 256 * (pA b + 256 * (pA c + 256 * pA d))) := by
    rw [pk_sub (by omega)]
    congr 1
    unfold pA
    omega
  generalize pA a = a' at a1 a2 a3 a4 s2
  generalize pA b = b' at b1 b2 b3 b4 s2
  generalize pA c = c' at c1 c2 c3 c4 s2
  generalize pA d = d' at d1 d2 d3 d4 s2
  have m51 : (858993459 : Int32) = nI (51 + 256 * (51 + 256 * (51 + 256 * 51))) := by decide
  have s3 : (nI (a' + 256 * (b' + 256 * (c' + 256 * d'))) &&& 858993459) + (pmUs (nI (a' + 256 * (b' + 256 * (c' + 256 * d')))) (nI 2) &&& 858993459) = nI (pB a' + 256 * (pB b' + 256 * (pB c' + 256 * pB d'))) := by
    rw [pm_us _ 2 (by omega) (by decide), m51, nI_and (by omega) (by decide), nI_and (by omega) (by decide),
      show (a' + 256 * (b' + 256 * (c' + 256 * d'))) / 2 ^ 2 = (a' / 4 + 64 * (b' % 4)) + 256 * ((b' / 4 + 64 * (c' % 4)) + 256 * ((c' / 4 + 64 * (d' % 4)) + 256 * (d' / 4))) by omega,
      and_4 a1 b1 c1 (by decide) (by decide) (by decide), and_4 (by omega) (by omega) (by omega) (by decide) (by decide) (by decide), pop_b a1 (by omega), pop_b b1 (by omega), pop_b c1 (by omega), nI_add]
    congr 1
    unfold pB
    omega
  generalize pB a' = x at a2 a3 a4 s3
  generalize pB b' = y at b2 b3 b4 s3
  generalize pB c' = z at c2 c3 c4 s3
  generalize pB d' = w at d2 d3 d4 s3
  have s4 : (nI (x + 256 * (y + 256 * (z + 256 * w))) + pmUs (nI (x + 256 * (y + 256 * (z + 256 * w)))) (nI 4)) &&& 252645135 = nI (pc8 a + 256 * (pc8 b + 256 * (pc8 c + 256 * pc8 d))) := by
    rw [pm_us _ 4 (by omega) (by decide), nI_add, show (252645135 : Int32) = nI (15 + 256 * (15 + 256 * (15 + 256 * 15))) by decide, nI_and (by omega) (by decide),
      show (x + 256 * (y + 256 * (z + 256 * w))) + (x + 256 * (y + 256 * (z + 256 * w))) / 2 ^ 4 = ((x % 16 + x / 16) + 16 * (x / 16 + y % 16)) + 256 * (((y % 16 + y / 16) + 16 * (y / 16 + z % 16)) + 256 * (((z % 16 + z / 16) + 16 * (z / 16 + w % 16)) + 256 * ((w % 16 + w / 16) + 16 * (w / 16)))) by omega,
      and_4 (by omega) (by omega) (by omega) (by decide) (by decide) (by decide), and15 _ (by omega) (by omega), and15 _ (by omega) (by omega), and15 _ (by omega) (by omega), and15 _ (by omega) (by omega), a4, b4, c4, d4]
  unfold bcE
  rw [s1, s2]
  dsimp only
  rw [s3, s4]
  have p1 : pc8 a ≤ 8 := cntN_le _ _
  have p2 : pc8 b ≤ 8 := cntN_le _ _
  have p3 : pc8 c ≤ 8 := cntN_le _ _
  have p4 : pc8 d ≤ 8 := cntN_le _ _
  generalize pc8 a = A at p1
  generalize pc8 b = B at p2
  generalize pc8 c = C at p3
  generalize pc8 d = E at p4
  show (nI _ + pmUs (nI _) (nI 8) + pmUs (nI _ + pmUs (nI _) (nI 8)) (nI 16)) &&& nI 63 = _
  rw [pm_us _ 8 (by omega) (by decide), nI_add, pm_us _ 16 (by omega) (by decide), nI_add, nI_and (by omega) (by decide), show (63 : Nat) = 2 ^ 6 - 1 from rfl, Nat.and_two_pow_sub_one_eq_mod]
  congr 1
  have h1 : (A + 256 * (B + 256 * (C + 256 * E))) / 2 ^ 8 = B + 256 * (C + 256 * E) := by omega
  rw [h1]
  have h2 : (A + 256 * (B + 256 * (C + 256 * E)) + (B + 256 * (C + 256 * E))) / 2 ^ 16 = C + E + 256 * E := by omega
  rw [h2]
  omega
theorem cntN_add (b : Nat → Bool) (m : Nat) : ∀ n, cntN b (m + n) = cntN b m + cntN (fun i => b (m + i)) n
  | 0 => rfl
  | n + 1 => by
    rw [← Nat.add_assoc, cntN, cntN, cntN_add b m n]
    split <;> omega
theorem cntN_congr {b b' : Nat → Bool} : ∀ n, (∀ i, i < n → b i = b' i) → cntN b n = cntN b' n
  | 0, _ => rfl
  | n + 1, h => by rw [cntN, cntN, cntN_congr n (fun i hi => h i (by omega)), h n (by omega)]
theorem hasb_tb (n k : Nat) (hn : n < 2 ^ 32) : hasb (nI n) k = n.testBit k := by
  unfold hasb
  show (nI n).toBitVec.toNat.testBit k = _
  rw [show (nI n).toBitVec.toNat = n from pk_tn hn]
theorem bcE_cnt (x : Int32) : bcE x = nI (cntN (hasb x) 32) := by
  have hx : tN x < 2 ^ 32 := x.toBitVec.isLt
  have e := nI_tN x
  generalize tN x = n at e hx
  subst e
  have h4 : n = n % 256 + 256 * (n / 256 % 256 + 256 * (n / 65536 % 256 + 256 * (n / 16777216))) := by omega
  have hb := bcE_bytes (a := n % 256) (b := n / 256 % 256) (c := n / 65536 % 256) (d := n / 16777216) (by omega) (by omega) (by omega) (by omega)
  rw [← h4] at hb
  rw [hb]
  congr 1
  rw [cntN_congr (b := hasb (nI n)) (b' := fun i => n.testBit i) 32 (fun i _ => hasb_tb n i hx)]
  rw [show (32 : Nat) = 8 + (8 + (8 + 8)) from rfl, cntN_add _ 8, cntN_add _ 8, cntN_add _ 8]
  have t0 : pc8 (n % 256) = cntN (fun i => n.testBit i) 8 := cntN_congr 8 (fun i hi => by
    show (n % 2 ^ 8).testBit i = _
    rw [Nat.testBit_mod_two_pow]; simp [hi])
  have t1 : pc8 (n / 256 % 256) = cntN (fun i => n.testBit (8 + i)) 8 := cntN_congr 8 (fun i hi => by
    show (n / 2 ^ 8 % 2 ^ 8).testBit i = _
    rw [Nat.testBit_mod_two_pow, Nat.testBit_div_two_pow]; simp [hi, Nat.add_comm])
  have t2 : pc8 (n / 65536 % 256) = cntN (fun i => n.testBit (8 + (8 + i))) 8 := cntN_congr 8 (fun i hi => by
    show (n / 2 ^ 16 % 2 ^ 8).testBit i = _
    rw [Nat.testBit_mod_two_pow, Nat.testBit_div_two_pow, show 8 + (8 + i) = i + 16 by omega]; simp [hi])
  have t3 : pc8 (n / 16777216) = cntN (fun i => n.testBit (8 + (8 + (8 + i)))) 8 := cntN_congr 8 (fun i hi => by
    show (n / 2 ^ 24).testBit i = _
    rw [Nat.testBit_div_two_pow, show 8 + (8 + (8 + i)) = i + 24 by omega])
  rw [t0, t1, t2, t3]
  omega
