/-! ===== pairs that change: a rule more ===== -/
theorem no_sur : ∀ (n : Nat) (f : Nat → Nat), (∀ s, s ≤ n → ∃ p, p < n ∧ f p = s) → False
  | 0, f, h => by obtain ⟨p, hp, _⟩ := h 0 (Nat.le_refl 0); exact absurd hp (Nat.not_lt_zero p)
  | n + 1, f, h => by
    obtain ⟨p0, h0, e0⟩ := h (n + 1) (Nat.le_refl _)
    refine no_sur n (fun p => if p < p0 then f p else f (p + 1)) (fun s hs => ?_)
    obtain ⟨p, hp, e⟩ := h s (by omega)
    have hne : p ≠ p0 := fun z => by subst z; omega
    by_cases c : p < p0
    · exact ⟨p, by omega, by show (if p < p0 then f p else f (p + 1)) = s; rw [if_pos c]; exact e⟩
    · exact ⟨p - 1, by omega, by show (if p - 1 < p0 then f (p - 1) else f (p - 1 + 1)) = s; rw [if_neg (by omega), show p - 1 + 1 = p by omega]; exact e⟩
theorem anM_at (M : pmM) (j rc g : Nat) (ac ow td a b c : Int32) (x k : Nat) : (anM M j rc g ac ow td a b c).1 x k = if x = 0 ∧ k = 3 then nI (rc + 1) else if x = 0 ∧ k = 4 then nI (g + 1) else if x = 32 + 3 * j ∧ k = 2 then c else if x = 32 + 3 * j ∧ k = 1 then b else if x = 32 + 3 * j ∧ k = 0 then a else if x = 31 + 3 * j ∧ k = 7 then -1 else if x = 31 + 3 * j ∧ k = 6 then nI 0 else if x = 31 + 3 * j ∧ k = 5 then nI 0 else if x = 31 + 3 * j ∧ k = 4 then td else if x = 31 + 3 * j ∧ k = 3 then -1 else if x = 31 + 3 * j ∧ k = 2 then ow else if x = 31 + 3 * j ∧ k = 1 then ac else if x = 31 + 3 * j ∧ k = 0 then nI g else M.1 x k := rfl
theorem anM_c0 (M : pmM) (j rc g : Nat) (ac ow td a b c : Int32) : (anM M j rc g ac ow td a b c).1 (31 + 3 * j) 0 = nI g := by rw [anM_at, if_neg (by omega), if_neg (by omega), if_neg (by omega), if_neg (by omega), if_neg (by omega), if_neg (by omega), if_neg (by omega), if_neg (by omega), if_neg (by omega), if_neg (by omega), if_neg (by omega), if_neg (by omega), if_pos ⟨rfl, rfl⟩]
theorem anM_c1 (M : pmM) (j rc g : Nat) (ac ow td a b c : Int32) : (anM M j rc g ac ow td a b c).1 (31 + 3 * j) 1 = ac := by rw [anM_at, if_neg (by omega), if_neg (by omega), if_neg (by omega), if_neg (by omega), if_neg (by omega), if_neg (by omega), if_neg (by omega), if_neg (by omega), if_neg (by omega), if_neg (by omega), if_neg (by omega), if_pos ⟨rfl, rfl⟩]
theorem anM_c2 (M : pmM) (j rc g : Nat) (ac ow td a b c : Int32) : (anM M j rc g ac ow td a b c).1 (31 + 3 * j) 2 = ow := by rw [anM_at, if_neg (by omega), if_neg (by omega), if_neg (by omega), if_neg (by omega), if_neg (by omega), if_neg (by omega), if_neg (by omega), if_neg (by omega), if_neg (by omega), if_neg (by omega), if_pos ⟨rfl, rfl⟩]
theorem anM_c3 (M : pmM) (j rc g : Nat) (ac ow td a b c : Int32) : (anM M j rc g ac ow td a b c).1 (31 + 3 * j) 3 = -1 := by rw [anM_at, if_neg (by omega), if_neg (by omega), if_neg (by omega), if_neg (by omega), if_neg (by omega), if_neg (by omega), if_neg (by omega), if_neg (by omega), if_neg (by omega), if_pos ⟨rfl, rfl⟩]
theorem anM_c4 (M : pmM) (j rc g : Nat) (ac ow td a b c : Int32) : (anM M j rc g ac ow td a b c).1 (31 + 3 * j) 4 = td := by rw [anM_at, if_neg (by omega), if_neg (by omega), if_neg (by omega), if_neg (by omega), if_neg (by omega), if_neg (by omega), if_neg (by omega), if_neg (by omega), if_pos ⟨rfl, rfl⟩]
theorem anM_c5 (M : pmM) (j rc g : Nat) (ac ow td a b c : Int32) : (anM M j rc g ac ow td a b c).1 (31 + 3 * j) 5 = nI 0 := by rw [anM_at, if_neg (by omega), if_neg (by omega), if_neg (by omega), if_neg (by omega), if_neg (by omega), if_neg (by omega), if_neg (by omega), if_pos ⟨rfl, rfl⟩]
theorem anM_c6 (M : pmM) (j rc g : Nat) (ac ow td a b c : Int32) : (anM M j rc g ac ow td a b c).1 (31 + 3 * j) 6 = nI 0 := by rw [anM_at, if_neg (by omega), if_neg (by omega), if_neg (by omega), if_neg (by omega), if_neg (by omega), if_neg (by omega), if_pos ⟨rfl, rfl⟩]
theorem anM_c7 (M : pmM) (j rc g : Nat) (ac ow td a b c : Int32) : (anM M j rc g ac ow td a b c).1 (31 + 3 * j) 7 = -1 := by rw [anM_at, if_neg (by omega), if_neg (by omega), if_neg (by omega), if_neg (by omega), if_neg (by omega), if_pos ⟨rfl, rfl⟩]
theorem anM_z {M : pmM} {j rc g : Nat} {ac ow td a b c : Int32} {k : Nat} (h : k ≠ 3 ∧ k ≠ 4) : (anM M j rc g ac ow td a b c).1 0 k = M.1 0 k := by rw [anM_at, if_neg (by omega), if_neg (by omega), if_neg (by omega), if_neg (by omega), if_neg (by omega), if_neg (by omega), if_neg (by omega), if_neg (by omega), if_neg (by omega), if_neg (by omega), if_neg (by omega), if_neg (by omega), if_neg (by omega)]
theorem nsM_at (M : pmM) (s : Nat) (nn acc a b c ow td : Int32) (x k : Nat) : (nsM M s nn acc a b c ow td).1 x k = if x = 80 ∧ k = s then -1 else if x = 79 ∧ k = s then nI 0 else if x = 78 ∧ k = s then td else if x = 77 ∧ k = s then nI 0 else if x = 76 ∧ k = s then -1 else if x = 75 ∧ k = s then ow else if x = 74 ∧ k = 3 * s + 2 then c else if x = 74 ∧ k = 3 * s + 1 then b else if x = 74 ∧ k = 3 * s then a else if x = 73 ∧ k = s then acc else if x = 72 ∧ k = s then nn else if x = 71 ∧ k = s then nI 1 else if x = 64 ∧ k = 0 then nI 0 else M.1 x k := rfl
theorem nsM_ne {M : pmM} {s : Nat} {nn acc a b c ow td : Int32} {x k : Nat} (h : x ≠ 64 ∨ k ≠ 0) (h1 : x = 74 ∨ x < 71 ∨ 80 < x ∨ k ≠ s) (h2 : x ≠ 74 ∨ (k ≠ 3 * s ∧ k ≠ 3 * s + 1 ∧ k ≠ 3 * s + 2)) : (nsM M s nn acc a b c ow td).1 x k = M.1 x k := by rw [nsM_at, if_neg (by omega), if_neg (by omega), if_neg (by omega), if_neg (by omega), if_neg (by omega), if_neg (by omega), if_neg (by omega), if_neg (by omega), if_neg (by omega), if_neg (by omega), if_neg (by omega), if_neg (by omega), if_neg (by omega)]
theorem nsM_80 (M : pmM) (s : Nat) (nn acc a b c ow td : Int32) : (nsM M s nn acc a b c ow td).1 80 (s) = -1 := by rw [nsM_at, if_pos ⟨rfl, rfl⟩]
theorem nsM_79 (M : pmM) (s : Nat) (nn acc a b c ow td : Int32) : (nsM M s nn acc a b c ow td).1 79 (s) = nI 0 := by rw [nsM_at, if_neg (by omega), if_pos ⟨rfl, rfl⟩]
theorem nsM_78 (M : pmM) (s : Nat) (nn acc a b c ow td : Int32) : (nsM M s nn acc a b c ow td).1 78 (s) = td := by rw [nsM_at, if_neg (by omega), if_neg (by omega), if_pos ⟨rfl, rfl⟩]
theorem nsM_77 (M : pmM) (s : Nat) (nn acc a b c ow td : Int32) : (nsM M s nn acc a b c ow td).1 77 (s) = nI 0 := by rw [nsM_at, if_neg (by omega), if_neg (by omega), if_neg (by omega), if_pos ⟨rfl, rfl⟩]
theorem nsM_76 (M : pmM) (s : Nat) (nn acc a b c ow td : Int32) : (nsM M s nn acc a b c ow td).1 76 (s) = -1 := by rw [nsM_at, if_neg (by omega), if_neg (by omega), if_neg (by omega), if_neg (by omega), if_pos ⟨rfl, rfl⟩]
theorem nsM_75 (M : pmM) (s : Nat) (nn acc a b c ow td : Int32) : (nsM M s nn acc a b c ow td).1 75 (s) = ow := by rw [nsM_at, if_neg (by omega), if_neg (by omega), if_neg (by omega), if_neg (by omega), if_neg (by omega), if_pos ⟨rfl, rfl⟩]
theorem nsM_74c (M : pmM) (s : Nat) (nn acc a b c ow td : Int32) : (nsM M s nn acc a b c ow td).1 74 (3 * s + 2) = c := by rw [nsM_at, if_neg (by omega), if_neg (by omega), if_neg (by omega), if_neg (by omega), if_neg (by omega), if_neg (by omega), if_pos ⟨rfl, rfl⟩]
theorem nsM_74b (M : pmM) (s : Nat) (nn acc a b c ow td : Int32) : (nsM M s nn acc a b c ow td).1 74 (3 * s + 1) = b := by rw [nsM_at, if_neg (by omega), if_neg (by omega), if_neg (by omega), if_neg (by omega), if_neg (by omega), if_neg (by omega), if_neg (by omega), if_pos ⟨rfl, rfl⟩]
theorem nsM_74a (M : pmM) (s : Nat) (nn acc a b c ow td : Int32) : (nsM M s nn acc a b c ow td).1 74 (3 * s) = a := by rw [nsM_at, if_neg (by omega), if_neg (by omega), if_neg (by omega), if_neg (by omega), if_neg (by omega), if_neg (by omega), if_neg (by omega), if_neg (by omega), if_pos ⟨rfl, rfl⟩]
theorem nsM_73 (M : pmM) (s : Nat) (nn acc a b c ow td : Int32) : (nsM M s nn acc a b c ow td).1 73 (s) = acc := by rw [nsM_at, if_neg (by omega), if_neg (by omega), if_neg (by omega), if_neg (by omega), if_neg (by omega), if_neg (by omega), if_neg (by omega), if_neg (by omega), if_neg (by omega), if_pos ⟨rfl, rfl⟩]
theorem nsM_72 (M : pmM) (s : Nat) (nn acc a b c ow td : Int32) : (nsM M s nn acc a b c ow td).1 72 (s) = nn := by rw [nsM_at, if_neg (by omega), if_neg (by omega), if_neg (by omega), if_neg (by omega), if_neg (by omega), if_neg (by omega), if_neg (by omega), if_neg (by omega), if_neg (by omega), if_neg (by omega), if_pos ⟨rfl, rfl⟩]
theorem nsM_71 (M : pmM) (s : Nat) (nn acc a b c ow td : Int32) : (nsM M s nn acc a b c ow td).1 71 (s) = nI 1 := by rw [nsM_at, if_neg (by omega), if_neg (by omega), if_neg (by omega), if_neg (by omega), if_neg (by omega), if_neg (by omega), if_neg (by omega), if_neg (by omega), if_neg (by omega), if_neg (by omega), if_neg (by omega), if_pos ⟨rfl, rfl⟩]
/-- a slot filled: both numbers of the rule at the new position; the order is still the old one with the new rule behind it -/
theorem REL.add {M N M2 : pmM} {od mo : Nat → Nat} {oc rc td g : Nat} {rg mc : Nat → Nat} {lo hi mb : Nat → Nat → Nat} (h : REL M od mo oc rc td g rg mc lo hi mb) (hlt : rc < 8) {s : Nat} (hs : s < 8) (hs0 : ∀ q, q < rc → mo q ≠ s) {ac ow a b c : Int32} (hac : ac = nI 97 ∨ ac = nI 100) (ha : obOk oc a) (hb : obOk oc b) (hc : obOk oc c)
    (eR : N.2.1 = mrC od) (e0 : ∀ k, N.1 0 k = (anM M (od rc) rc g ac ow (M.1 0 5) a b c).1 0 k) (eO : ∀ x k, 15 ≤ x → x < 31 → N.1 x k = M.1 x k) (eO2 : ∀ x k, 15 ≤ x → x < 31 → M2.1 x k = M.1 x k) (eA : ∀ p k, p < 8 → N.1 (31 + 3 * od p) k = (anM M (od rc) rc g ac ow (M.1 0 5) a b c).1 (31 + 3 * od p) k) (eB : ∀ p k, p < 8 → N.1 (32 + 3 * od p) k = (anM M (od rc) rc g ac ow (M.1 0 5) a b c).1 (32 + 3 * od p) k) (eC : ∀ p f, p < rc + 1 → f < 3 → N.1 (33 + 3 * od p) f = mtv M2 rg (N.1 (32 + 3 * od p) f))
    (e1 : N.1 64 1 = M.1 64 1) (e2 : N.1 64 2 = M.1 64 2) (e8 : N.1 64 8 = nI (rc + 1)) (e9 : N.1 64 9 = nI (g + 1)) (e6 : ∀ x k, 65 ≤ x → x < 70 → N.1 x k = M.1 x k) (e70 : ∀ k, k < rc + 1 → N.1 70 k = nI (if k = rc then s else mo k)) (e7 : ∀ x k, 71 ≤ x → x ≤ 80 → N.1 x k = (nsM M s (nI g) (if ac = nI 97 then nI 1 else nI 0) a b c ow (M.1 64 1)).1 x k) :
    REL N od (fun k => if k = rc then s else mo k) oc (rc + 1) td (g + 1) rg mc lo hi mb := by
  have hmat := h.ot
  obtain ⟨⟨a1, a2, a3, a4, a5, a6, a7, a8, a9, a10, a11, a12, a13, a14⟩, ⟨r1, r2, r3, r4, r5⟩, ⟨b1, b2, b3, b4, b5⟩⟩ := id h
  have hot : OT M2 oc rg mc lo hi mb := by
    obtain ⟨t1, t2, t3, t4⟩ := hmat
    refine ⟨t1, t2, fun q hq i hi => ?_, fun q k hq hk => ?_⟩
    · rw [eO2 (15 + 2 * q) _ (by omega) (by omega)]; exact t3 q hq i hi
    · rw [eO2 (16 + 2 * q) _ (by omega) (by omega)]; exact t4 q k hq hk
  have hod : ∀ q, q < rc → od q ≠ od rc := fun q hq z => by have := a3 q rc (by omega) hlt z; omega
  refine ⟨⟨eR, a2, a3, a4, by omega, a6, (e0 1).trans ((anM_z (by decide)).trans a7), (e0 3).trans rfl, (e0 4).trans rfl, (e0 5).trans ((anM_z (by decide)).trans a10), e2.trans a11, e8, e9, e1.trans a14⟩, ⟨fun o ho => ?_, fun o k ho hk => ?_, fun o k ho hk => ?_, r4, fun o ho i hi => ?_⟩, ⟨fun k hk => ?_, fun j k hj hk z => ?_, fun q hq => ?_, fun k hk => ?_, fun k f hk hf => ?_⟩⟩
  · rw [eO (15 + 2 * o) _ (by omega) (by omega), e6 65 _ (by omega) (by omega), e6 68 _ (by omega) (by omega)]; exact r1 o ho
  · rw [e6 66 _ (by omega) (by omega), e6 67 _ (by omega) (by omega), eO (16 + 2 * o) _ (by omega) (by omega)]; exact r2 o k ho hk
  · rw [e6 69 _ (by omega) (by omega)]; exact r3 o k ho hk
  · rw [eO (15 + 2 * o) _ (by omega) (by omega)]; exact r5 o ho i hi
  · refine ⟨e70 k hk, ?_⟩
    show (if k = rc then s else mo k) < 8
    split
    · exact hs
    · exact (b1 k (by omega)).2
  · simp only at z
    by_cases q1 : j = rc
    · by_cases q2 : k = rc
      · omega
      · rw [if_pos q1, if_neg q2] at z; exact absurd z.symm (hs0 k (by omega))
    · by_cases q2 : k = rc
      · rw [if_neg q1, if_pos q2] at z; exact absurd z (hs0 j (by omega))
      · rw [if_neg q1, if_neg q2] at z; exact b2 j k (by omega) (by omega) z
  · rw [e7 71 q (by omega) (by omega)]
    by_cases c1 : q = s
    · subst c1
      rw [nsM_71]
      refine ⟨fun z => absurd z (by decide), fun z => ?_⟩
      exact absurd (if_pos rfl) (z rc (by omega))
    · rw [nsM_ne (by omega) (by omega) (by omega), b3 q hq]
      dsimp only
      constructor
      · intro z k hk
        by_cases c2 : k = rc
        · rw [if_pos c2]; exact fun y => c1 y.symm
        · rw [if_neg c2]; exact z k (by omega)
      · intro z k hk
        have := z k (by omega)
        rw [if_neg (by omega)] at this; exact this
  · simp only
    rw [eA k 0 (by omega), eA k 1 (by omega), eA k 2 (by omega), eA k 3 (by omega), eA k 4 (by omega), eA k 5 (by omega), eA k 6 (by omega), eA k 7 (by omega), e7 72 _ (by omega) (by omega), e7 73 _ (by omega) (by omega), e7 75 _ (by omega) (by omega), e7 76 _ (by omega) (by omega), e7 77 _ (by omega) (by omega), e7 78 _ (by omega) (by omega), e7 79 _ (by omega) (by omega), e7 80 _ (by omega) (by omega)]
    by_cases c1 : k = rc
    · rw [if_pos c1, c1, anM_c0, anM_c1, anM_c2, anM_c3, anM_c4, anM_c5, anM_c6, anM_c7, nsM_72, nsM_73, nsM_75, nsM_76, nsM_77, nsM_78, nsM_79, nsM_80, a10, a14]
      refine ⟨rfl, ?_, rfl, rfl, rfl, rfl, rfl, (if_pos rfl).symm⟩
      rcases hac with rfl | rfl
      · rfl
      · rfl
    · have hk' : k < rc := by omega
      have hj := a2 k (by omega)
      have h1 := hod k hk'
      have h2 := hs0 k hk'
      rw [if_neg c1]
      have e : ∀ i, (anM M (od rc) rc g ac ow (M.1 0 5) a b c).1 (31 + 3 * od k) i = M.1 (31 + 3 * od k) i := fun i => anM_no (by omega) (by omega) (by omega)
      rw [e, e, e, e, e, e, e, e, nsM_ne (by omega) (by omega) (by omega), nsM_ne (by omega) (by omega) (by omega), nsM_ne (by omega) (by omega) (by omega), nsM_ne (by omega) (by omega) (by omega), nsM_ne (by omega) (by omega) (by omega), nsM_ne (by omega) (by omega) (by omega), nsM_ne (by omega) (by omega) (by omega), nsM_ne (by omega) (by omega) (by omega)]
      exact b4 k hk'
  · simp only
    rw [eC k f hk hf, eB k f (by omega), e7 74 _ (by omega) (by omega)]
    by_cases c1 : k = rc
    · rw [if_pos c1, c1, anM_B hf]
      have hx : (nsM M s (nI g) (if ac = nI 97 then nI 1 else nI 0) a b c ow (M.1 64 1)).1 74 (3 * s + f) = if f = 0 then a else if f = 1 then b else c := by
        rcases (show f = 0 ∨ f = 1 ∨ f = 2 by omega) with rfl | rfl | rfl
        · rw [Nat.add_zero, nsM_74a]; rfl
        · rw [nsM_74b]; rfl
        · rw [nsM_74c]; rfl
      rw [hx]
      have ho : obOk oc (if f = 0 then a else if f = 1 then b else c) := by
        split
        · exact ha
        · split
          · exact hb
          · exact hc
      exact ⟨rfl, ho, mt_st hot ho⟩
    · have hk' : k < rc := by omega
      have hj := a2 k (by omega)
      have h1 := hod k hk'
      have h2 := hs0 k hk'
      obtain ⟨t1, t2, t3⟩ := b5 k f hk' hf
      rw [if_neg c1, anM_no (by omega) (by omega) (by omega), nsM_ne (by omega) (by omega) (by omega), t1]
      exact ⟨rfl, t2, mt_st hot t2⟩
theorem p_addRule {l : Launch} (hf : l.stackTraces = false) {M : pmM} (h : RLX M) (x y a b c z : Int32) : PR l kL_addRule kX4_addRule 12 2 6 [.ref 0, .int x, .int y, .int a, .int b, .int c, .int z, .ref 84] [.ref 64, .int x, .int y, .int a, .int b, .int c, .int z] M := by
  obtain ⟨od, mo, oc, rc, td, g, rg, mc, lo, hi, mb, h⟩ := h
  obtain ⟨⟨a1, a2, a3, a4, a5, a6, a7, a8, a9, a10, a11, a12, a13, a14⟩, ro, ⟨b1, b2, b3, b4, b5⟩⟩ := id h
  by_cases hx : vp_in x (rc + 1)
  · obtain ⟨p, hp, rfl⟩ := vp_in_of hx (by omega)
    by_cases hob : obOk oc a ∧ obOk oc b ∧ obOk oc c
    · obtain ⟨ha, hb, hc⟩ := hob
      by_cases hac : y = nI 97 ∨ y = nI 100
      · by_cases how : vp_in z 6
        · obtain ⟨w, hw, rfl⟩ := vp_in_of how (by decide)
          by_cases hlt : rc < 8
          · obtain ⟨s, hs, hs0, hs1⟩ : ∃ s, s < 8 ∧ M.1 71 s = 0 ∧ ∀ q, q < s → M.1 71 q ≠ 0 := by
              rcases first_b (fun s => decide (M.1 71 s = 0)) 8 with ⟨s, hs, e, hn⟩ | hn
              · exact ⟨s, hs, of_decide_eq_true e, fun q hq => of_decide_eq_false (hn q hq)⟩
              · refine (no_sur rc mo (fun s hs => ?_)).elim
                have h0 : M.1 71 s ≠ 0 := of_decide_eq_false (hn s (by omega))
                rw [Ne, b3 s (by omega)] at h0
                by_cases e : ∃ q, q < rc ∧ mo q = s
                · exact e
                · exact absurd (fun q hq z => e ⟨q, hq, z⟩) h0
            have hms : ∀ q, q < rc → mo q ≠ s := (b3 s hs).mp hs0
            have hw0 := w_addRule_ok hf (s_addRule_ok hf a1 a2 a8 a5 ro.hrg h.hfo a7 a4 ha hb hc hac hw a9 (Nat.lt_succ_iff.mp hp) hlt)
            have hj := a2 rc hlt
            have od' : ∀ q, q < 8 → shO od rc p q < 8 := fun q hq => by rw [shO_sg]; exact a2 _ (sg_lt (by omega) (by omega) hq)
            have eM : ∀ x k, 64 ≤ x → (ouM (umM (odM (anM M (od rc) rc g y (nI w) (M.1 0 5) a b c) (shO od rc p)) (shO od rc p) rg (rc + 1)) (nI g).toInt64).1 x k = M.1 x k := fun x k q => (umM_hi _ od' (by omega) q).trans (anM_no (by omega) (by omega) (by omega))
            have m0 := fun (T : pmM) (hT : T.2.1 = mrC (shO od rc p)) (e : ∀ x k, 64 ≤ x → T.1 x k = M.1 x k) => m_addRule_ok (M := T) (od := shO od rc p) (rc := rc) (mo := mo) (oc := oc) (g := g) (s := s) hf hT ((e _ _ (by decide)).trans a12) a5 (fun q hq => by rw [e 70 _ (by omega)]; exact b1 q hq) ((e _ _ (by decide)).trans a11) a4 ((e _ _ (by decide)).trans a13) (Nat.lt_succ_iff.mp hp) hlt ha hb hc hac hw hs ((e _ _ (by decide)).trans hs0) (fun q hq => by rw [e 71 _ (by omega)]; exact hs1 q hq)
            refine ⟨0, _, nI g, _, by decide, hw0, fun _ => rfl, m0 (ouM (umM (odM (anM M (od rc) rc g y (nI w) (M.1 0 5) a b c) (shO od rc p)) (shO od rc p) rg (rc + 1)) (nI g).toInt64) rfl eM, rfl, shO od rc p, shO (fun k => if k = rc then s else mo k) rc p, oc, rc + 1, td, g + 1, rg, mc, lo, hi, mb, ?_⟩
            have hMC : ∀ x k, x < 64 → (ouM (umM (odM (anM M (od rc) rc g y (nI w) (M.1 0 5) a b c) (shO od rc p)) (shO od rc p) rg (rc + 1)) (nI g).toInt64).1 x k = (umM (odM (anM M (od rc) rc g y (nI w) (M.1 0 5) a b c) (shO od rc p)) (shO od rc p) rg (rc + 1)).1 x k := fun _ _ _ => rfl
            have hA : ∀ x k, x < 64 → x < 33 ∨ x % 3 ≠ 0 → (umM (odM (anM M (od rc) rc g y (nI w) (M.1 0 5) a b c) (shO od rc p)) (shO od rc p) rg (rc + 1)).1 x k = (anM M (od rc) rc g y (nI w) (M.1 0 5) a b c).1 x k := fun x k q1 q2 => umM_no _ (by omega)
            have hC : ∀ q f, q < rc + 1 → f < 3 → (umM (odM (anM M (od rc) rc g y (nI w) (M.1 0 5) a b c) (shO od rc p)) (shO od rc p) rg (rc + 1)).1 (33 + 3 * od q) f = mtv (odM (anM M (od rc) rc g y (nI w) (M.1 0 5) a b c) (shO od rc p)) rg ((anM M (od rc) rc g y (nI w) (M.1 0 5) a b c).1 (32 + 3 * od q) f) := fun q f hq hf3 => by
              have e1 : od q = shO od rc p (sgO p rc q) := by rw [shO_sg, sg_inv]
              rw [e1]
              exact umM_at _ (sg_lt hp (by omega) hq) hf3
            have hT2 : (ouM (umM (odM (anM M (od rc) rc g y (nI w) (M.1 0 5) a b c) (shO od rc p)) (shO od rc p) rg (rc + 1)) (nI g).toInt64).2.1 = mrC (shO od rc p) := rfl
            generalize (ouM (umM (odM (anM M (od rc) rc g y (nI w) (M.1 0 5) a b c) (shO od rc p)) (shO od rc p) rg (rc + 1)) (nI g).toInt64) = T at eM hMC hT2 ⊢
            generalize (umM (odM (anM M (od rc) rc g y (nI w) (M.1 0 5) a b c) (shO od rc p)) (shO od rc p) rg (rc + 1)) = C at hMC hA hC ⊢
            generalize hN : maM (nsM T s (nI g) (if y = nI 97 then nI 1 else nI 0) a b c (nI w) (T.1 64 1)) s rc p g = N
            have gN : ∀ x k, x ≠ 70 → (x ≠ 64 ∨ (k ≠ 8 ∧ k ≠ 9)) → N.1 x k = (nsM T s (nI g) (if y = nI 97 then nI 1 else nI 0) a b c (nI w) (T.1 64 1)).1 x k := fun x k q1 q2 => by
              rw [← hN]
              show (if x = 64 ∧ k = 9 then _ else if x = 64 ∧ k = 8 then _ else if x = 70 ∧ k = p then _ else (osL _ rc (rc - p)).1 x k) = _
              rw [if_neg (by omega), if_neg (by omega), if_neg (by omega), osL_no q1]
            have gC : ∀ x k, x < 64 → N.1 x k = C.1 x k := fun x k q => (gN x k (by omega) (by omega)).trans ((nsM_ne (by omega) (by omega) (by omega)).trans (hMC x k q))
            have gA : ∀ x k, x < 64 → x < 33 ∨ x % 3 ≠ 0 → N.1 x k = (anM M (od rc) rc g y (nI w) (M.1 0 5) a b c).1 x k := fun x k q1 q2 => (gC x k q1).trans (hA x k q1 q2)
            have gR : N.2.1 = mrC (shO od rc p) := by rw [← hN]; exact hT2
            have g98 : N.1 64 8 = nI (rc + 1) ∧ N.1 64 9 = nI (g + 1) := by rw [← hN]; exact ⟨rfl, rfl⟩
            have e1 : ∀ x k, x ≠ 70 → ((fun x k => if x = 70 then nI (if k = rc then s else mo k) else N.1 x k, mrC od, N.2.2) : pmM).1 x k = N.1 x k := fun x k q => if_neg q
            have h1 : REL ((fun x k => if x = 70 then nI (if k = rc then s else mo k) else N.1 x k, mrC od, N.2.2) : pmM) od (fun k => if k = rc then s else mo k) oc (rc + 1) td (g + 1) rg mc lo hi mb := by
              refine h.add (M2 := odM (anM M (od rc) rc g y (nI w) (M.1 0 5) a b c) (shO od rc p)) (ow := nI w) hlt hs hms hac ha hb hc rfl (fun k => ?_) (fun x k q1 q2 => ?_) (fun x k q1 q2 => anM_no (by omega) (by omega) (by omega)) (fun q k hq => ?_) (fun q k hq => ?_) (fun q f hq hf3 => ?_) ?_ ?_ ?_ ?_ (fun x k q1 q2 => ?_) (fun k hk => show (if 70 = 70 then nI (if k = rc then s else mo k) else N.1 70 k) = _ from if_pos rfl) (fun x k q1 q2 => ?_)
              · exact (e1 0 k (by omega)).trans (gA 0 k (by omega) (by omega))
              · exact (e1 x k (by omega)).trans ((gA x k (by omega) (by omega)).trans (anM_no (by omega) (by omega) (by omega)))
              · have := a2 q hq
                exact (e1 _ k (by omega)).trans (gA _ k (by omega) (by omega))
              · have := a2 q hq
                exact (e1 _ k (by omega)).trans (gA _ k (by omega) (by omega))
              · have := a2 q (by omega)
                rw [e1 (33 + 3 * od q) _ (by omega), e1 (32 + 3 * od q) _ (by omega), gC _ _ (by omega), gA (32 + 3 * od q) _ (by omega) (by omega), hC q f hq hf3]
              · exact (e1 64 1 (by omega)).trans ((gN 64 1 (by omega) (by omega)).trans ((nsM_ne (by omega) (by omega) (by omega)).trans (eM 64 1 (by omega))))
              · exact (e1 64 2 (by omega)).trans ((gN 64 2 (by omega) (by omega)).trans ((nsM_ne (by omega) (by omega) (by omega)).trans (eM 64 2 (by omega))))
              · exact (e1 64 8 (by omega)).trans g98.1
              · exact (e1 64 9 (by omega)).trans g98.2
              · exact (e1 x k (by omega)).trans ((gN x k (by omega) (by omega)).trans ((nsM_ne (by omega) (by omega) (by omega)).trans (eM x k (by omega))))
              · refine (e1 x k (by omega)).trans ((gN x k (by omega) (by omega)).trans ?_)
                rw [nsM_at, nsM_at, eM 64 1 (by omega), eM x k (by omega)]
            refine h1.sh (show rc < rc + 1 by omega) hp gR (fun k hk => ?_) (fun x k q => (e1 x k (by omega)).symm)
            rw [← hN]
            show (if 70 = 64 ∧ k = 9 then nI (g + 1) else if 70 = 64 ∧ k = 8 then nI (rc + 1) else if 70 = 70 ∧ k = p then nI s else if 70 = 70 ∧ rc - (rc - p) < k ∧ k ≤ rc then (nsM T s (nI g) (if y = nI 97 then nI 1 else nI 0) a b c (nI w) (T.1 64 1)).1 70 (k - 1) else (nsM T s (nI g) (if y = nI 97 then nI 1 else nI 0) a b c (nI w) (T.1 64 1)).1 70 k) = _
            rw [if_neg (by omega), if_neg (by omega), nsM_ne (by omega) (by omega) (by omega), nsM_ne (by omega) (by omega) (by omega), eM 70 _ (by decide), eM 70 _ (by decide)]
            unfold shO
            by_cases c1 : k = p
            · rw [if_pos ⟨rfl, c1⟩, if_pos c1]
              show nI s = nI (if rc = rc then s else mo rc)
              rw [if_pos rfl]
            · rw [if_neg (fun z => c1 z.2), if_neg c1]
              by_cases c2 : p < k
              · rw [if_pos (by omega), if_neg (by omega), if_pos (by omega)]
                show _ = nI (if k - 1 = rc then s else mo (k - 1))
                rw [if_neg (by omega)]; exact (b1 _ (by omega)).1
              · rw [if_neg (by omega), if_neg (by omega), if_neg (by omega)]
                show _ = nI (if k = rc then s else mo k)
                rw [if_neg (by omega)]; exact (b1 _ (by omega)).1
          · have e8 : rc = 8 := by omega
            subst e8
            exact ⟨3, _, _, _, by decide, w_addRule_x3 hf (s_addRule_no5 hf a8 a7 a4 (Nat.lt_succ_iff.mp hp) ha hb hc hac hw), fun z => absurd z (by decide), m_addRule_no5 hf a1 a12 a11 a4 (Nat.lt_succ_iff.mp hp) ha hb hc hac hw, rfl, _, _, _, _, _, _, _, _, _, _, _, h.ms (((MS.rf _).cd 0).cd 3)⟩
        · exact ⟨2, _, _, _, by decide, w_addRule_x2 hf (s_addRule_no4 hf a8 a5 a7 a4 (Nat.lt_succ_iff.mp hp) ha hb hc hac how), fun z => absurd z (by decide), m_addRule_no4 hf a1 a12 a5 a11 a4 (Nat.lt_succ_iff.mp hp) ha hb hc hac how, rfl, _, _, _, _, _, _, _, _, _, _, _, h.ms (((MS.rf _).cd 0).cd 2)⟩
      · exact ⟨2, _, _, _, by decide, w_addRule_x2 hf (s_addRule_no3 hf a8 a5 a7 a4 (Nat.lt_succ_iff.mp hp) ha hb hc (fun z => hac (Or.inl z)) (fun z => hac (Or.inr z))), fun z => absurd z (by decide), m_addRule_no3 hf a1 a12 a5 a11 a4 (Nat.lt_succ_iff.mp hp) ha hb hc (fun z => hac (Or.inl z)) (fun z => hac (Or.inr z)), rfl, _, _, _, _, _, _, _, _, _, _, _, h.ms (((MS.rf _).cd 0).cd 2)⟩
    · exact ⟨1, _, _, _, by decide, w_addRule_x1 hf (s_addRule_no2 hf a8 a5 a7 a4 (Nat.lt_succ_iff.mp hp) hob), fun z => absurd z (by decide), m_addRule_no2 hf a1 a12 a5 a11 a4 (Nat.lt_succ_iff.mp hp) hob, rfl, _, _, _, _, _, _, _, _, _, _, _, h.ms (((MS.rf _).cd 0).cd 1)⟩
  · exact ⟨1, _, _, _, by decide, w_addRule_x1 hf (s_addRule_no1 hf a8 a5 hx), fun z => absurd z (by decide), m_addRule_no1 hf a1 a12 a5 hx, rfl, _, _, _, _, _, _, _, _, _, _, _, h.ms (((MS.rf _).cd 0).cd 1)⟩
