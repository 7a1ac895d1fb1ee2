/-! ===== pairs that change: an object more ===== -/
theorem sc_up {M : pmM} {oc : Nat} {rg mc : Nat → Nat} {lo hi mb : Nat → Nat → Nat} (ro : RO M oc rg mc lo hi mb) (hoc : oc < 8) {o : Nat} (ho : o < oc) : ScF (oc + 1) rg mc lo hi mb (-1) (nI 0) o = ScF oc rg mc lo hi mb (-1) (nI 0) o := by
  have hb : ∀ o k, o < oc → k < mc o → mb o k < oc := fun o k h1 h2 => (ro.2.2.1 o k h1 h2).2
  have z := (ro.1 oc hoc).2.2.2.2.2 (Nat.le_refl oc)
  have hb2 : ∀ o k, o < oc + 1 → k < mc o → mb o k < oc + 1 := fun o k h1 h2 => by
    by_cases e : o = oc
    · subst e; rw [z.2] at h2; exact absurd h2 (Nat.not_lt_zero k)
    · exact Nat.lt_succ_of_lt (hb o k (by omega) h2)
  refine hasb_ext (fun v _ => ?_)
  rw [Bool.eq_iff_iff, sc_iff hb2 (by omega) (by omega), sc_iff hb (by omega) ho]
  constructor
  · rintro ⟨x, x1, x2, x3⟩
    by_cases e : x = oc
    · subst e
      rcases x3 with ⟨y, -⟩ | ⟨k, hk, -⟩
      · exact absurd y (nI_m1 hoc)
      · rw [z.1] at hk; exact absurd hk (Nat.not_lt_zero k)
    · exact ⟨x, by omega, x2, x3⟩
  · rintro ⟨x, x1, x2, x3⟩
    exact ⟨x, by omega, x2, x3⟩
theorem p_addObject {l : Launch} (hf : l.stackTraces = false) {M : pmM} (h : RLX M) : PR l kL_addObject kX4_addObject 2 1 1 [.ref 0, .ref 84] [.ref 64] M := by
  obtain ⟨od, mo, oc, rc, td, g, rg, mc, lo, hi, mb, h⟩ := h
  obtain ⟨⟨a1, a2, a3, a4, a5, a6, a7, a8, a9, a10, a11, a12, a13, a14⟩, ro, ⟨b1, b2, b3, b4, b5⟩⟩ := id h
  by_cases h8 : oc < 8
  · have w := w_addObject_ok hf (s_addObject_ok hf a7 a4 h8)
    have m := m_addObject_ok (M := ouM (aoM M oc) (nI oc).toInt64) hf a1 a11 a4 h8
    refine ⟨0, _, nI oc, _, by decide, w, fun _ => rfl, m, rfl, od, mo, oc + 1, rc, td, g, rg, mc, lo, hi, mb, ?_⟩
    generalize hN : moM (ouM (aoM M oc) (nI oc).toInt64) oc = N
    have e : ∀ a k, a ≠ 0 → a ≠ 64 → N.1 a k = M.1 a k := fun a k q1 q2 => by
      rw [← hN]
      show pm2 (pm2 (pm2 M.1 0 1 _) 64 0 _) 64 2 _ a k = _
      rw [pm2_n q2, pm2_n q2, pm2_n q1]
    have e0 : N.2.1 = M.2.1 := by rw [← hN]; rfl
    have f3 : N.1 0 3 = M.1 0 3 ∧ N.1 0 4 = M.1 0 4 ∧ N.1 0 5 = M.1 0 5 ∧ N.1 64 8 = M.1 64 8 ∧ N.1 64 9 = M.1 64 9 ∧ N.1 64 1 = M.1 64 1 ∧ N.1 0 1 = nI (oc + 1) ∧ N.1 64 2 = nI (oc + 1) := by rw [← hN]; exact ⟨rfl, rfl, rfl, rfl, rfl, rfl, rfl, rfl⟩
    obtain ⟨f1, f2, f4, f5, f6, f7, f8, f9⟩ := f3
    obtain ⟨r1, r2, r3, r4, r5⟩ := id ro
    have z := (r1 oc h8).2.2.2.2.2 (Nat.le_refl oc)
    refine ⟨⟨e0.trans a1, a2, a3, by omega, a5, a6, f8, f1.trans a8, f2.trans a9, f4.trans a10, f9, f5.trans a12, f6.trans a13, f7.trans a14⟩, ⟨fun o ho => ?_, fun o k ho hk => ?_, fun o k ho hk => ?_, fun o ho h2 => ?_, fun o ho i hi => ?_⟩, ⟨fun p hp => ?_, b2, fun s hs => ?_, fun p hp => ?_, fun p f hp hf3 => ?_⟩⟩
    · rw [e (15 + 2 * o) _ (by omega) (by omega), e 65 _ (by omega) (by omega), e 68 _ (by omega) (by omega)]
      obtain ⟨t1, t2, t3, t4, t5, t6⟩ := r1 o ho
      exact ⟨t1, t2, t3, t4, t5, fun q => t6 (by omega)⟩
    · by_cases q : o = oc
      · subst q; rw [z.1] at hk; exact absurd hk (Nat.not_lt_zero k)
      · rw [e 66 _ (by omega) (by omega), e 67 _ (by omega) (by omega), e (16 + 2 * o) _ (by omega) (by omega)]; exact r2 o k (by omega) hk
    · by_cases q : o = oc
      · subst q; rw [z.2] at hk; exact absurd hk (Nat.not_lt_zero k)
      · rw [e 69 _ (by omega) (by omega)]
        have := r3 o k (by omega) hk
        exact ⟨this.1, by omega⟩
    · by_cases q : o = oc
      · subst q; rw [z.2] at h2; exact absurd h2 (by decide)
      · exact r4 o (by omega) h2
    · rw [e (15 + 2 * o) _ (by omega) (by omega)]; exact r5 o ho i hi
    · rw [e 70 _ (by omega) (by omega)]; exact b1 p hp
    · rw [e 71 _ (by omega) (by omega)]; exact b3 s hs
    · have hj := a2 p (by omega)
      rw [e (31 + 3 * od p) 0 (by omega) (by omega), e (31 + 3 * od p) 1 (by omega) (by omega), e (31 + 3 * od p) 2 (by omega) (by omega), e (31 + 3 * od p) 3 (by omega) (by omega), e (31 + 3 * od p) 4 (by omega) (by omega), e (31 + 3 * od p) 5 (by omega) (by omega), e (31 + 3 * od p) 6 (by omega) (by omega), e (31 + 3 * od p) 7 (by omega) (by omega), e 72 _ (by omega) (by omega), e 73 _ (by omega) (by omega), e 75 _ (by omega) (by omega), e 76 _ (by omega) (by omega), e 77 _ (by omega) (by omega), e 78 _ (by omega) (by omega), e 79 _ (by omega) (by omega), e 80 _ (by omega) (by omega)]
      exact b4 p hp
    · have hj := a2 p (by omega)
      rw [e (32 + 3 * od p) _ (by omega) (by omega), e (33 + 3 * od p) _ (by omega) (by omega), e 74 _ (by omega) (by omega)]
      obtain ⟨t1, t2, t3⟩ := b5 p f hp hf3
      refine ⟨t1, t2.elim Or.inl (fun ⟨y, y1, y2⟩ => Or.inr ⟨y, by omega, y2⟩), t3.trans ?_⟩
      rcases t2 with t2 | ⟨y, y1, y2⟩
      · rw [t2]; rfl
      · rw [y2]
        unfold stC
        rw [if_neg (nI_m1 (by omega)), if_neg (nI_m1 (by omega)), ixN_nI (by omega), sc_up ro h8 y1]
  · have e8 : oc = 8 := by omega
    subst e8
    exact ⟨1, _, _, _, by decide, w_addObject_x1 hf (s_addObject_no hf a7), fun z => absurd z (by decide), m_addObject_no hf a1 a11, rfl, _, _, _, _, _, _, _, _, _, _, _, h.ms (((MS.rf _).cd 0).cd 1)⟩
