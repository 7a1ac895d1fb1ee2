/-! ===== pairs that change: the last day ===== -/
theorem p_setLastDay {l : Launch} (hf : l.stackTraces = false) {M : pmM} (h : RLX M) (x y : Int32) : PR l kL_setLastDay kX4_setLastDay 3 2 2 [.ref 0, .int x, .int y, .ref 84] [.ref 64, .int x, .int y] M := by
  obtain ⟨od, mo, oc, rc, td, g, rg, mc, lo, hi, mb, h⟩ := h
  obtain ⟨⟨a1, a2, a3, a4, a5, a6, a7, a8, a9, a10, a11, a12, a13, a14⟩, ro, ⟨b1, b2, b3, b4, b5⟩⟩ := id h
  rcases find_rule M od rc x with ⟨p, hp, hx, hn⟩ | hn
  · by_cases hy : y = -1 ∨ ∃ d : Nat, td ≤ d ∧ d ≤ 999 ∧ y = nI d
    · have w := w_setLastDay_ok hf (s_setLastDay_ok hf a1 a2 a8 a5 hp hx hn a10 a6 hy)
      rw [(b4 p hp).2.2.2.1] at w
      have hj := a2 p (by omega)
      have c : ∀ a k, a ≠ 31 + 3 * od p → (sdM M (od p) y).1 a k = M.1 a k := fun a k q => pm2_n q
      have m := m_setLastDay_ok (M := ouM (sdM M (od p) y) (M.1 76 (mo p)).toInt64) (mo := mo) (x := x) (p := p) hf a1 ((c _ _ (by omega)).trans a12) a5 (fun q hq => by rw [show (ouM (sdM M (od p) y) (M.1 76 (mo p)).toInt64).1 70 q = M.1 70 q from c _ _ (by omega)]; exact b1 q hq) hp ((show (ouM (sdM M (od p) y) (M.1 76 (mo p)).toInt64).1 72 (mo p) = M.1 72 (mo p) from c _ _ (by omega)).trans ((b4 p hp).1.symm.trans hx)) (fun q hq z => hn q hq ((b4 q (by omega)).1.trans ((show (ouM (sdM M (od p) y) (M.1 76 (mo p)).toInt64).1 72 (mo q) = M.1 72 (mo q) from c _ _ (by omega)).symm.trans z))) ((c _ _ (by omega)).trans a14) a6 hy
      rw [show (ouM (sdM M (od p) y) (M.1 76 (mo p)).toInt64).1 76 (mo p) = M.1 76 (mo p) from c _ _ (by omega)] at m
      refine ⟨0, _, M.1 76 (mo p), _, by decide, w, fun _ => rfl, m, rfl, od, mo, oc, rc, td, g, rg, mc, lo, hi, mb, ?_⟩
      generalize hN : msdM (ouM (sdM M (od p) y) (M.1 76 (mo p)).toInt64) (mo p) y = N
      have e : ∀ a k, a ≠ 76 ∨ k ≠ mo p → a ≠ 31 + 3 * od p ∨ k ≠ 3 → a ≠ 64 ∨ k ≠ 0 → N.1 a k = M.1 a k := fun a k q1 q2 q3 => by
        rw [← hN]
        show (if a = 76 ∧ k = mo p then y else if a = 64 ∧ k = 0 then nI 0 else if a = 31 + 3 * od p ∧ k = 3 then y else M.1 a k) = M.1 a k
        rw [if_neg (by omega), if_neg (by omega), if_neg (by omega)]
      have e1 : N.1 76 (mo p) = y := by rw [← hN]; exact if_pos ⟨rfl, rfl⟩
      have e2 : N.1 (31 + 3 * od p) 3 = y := by
        rw [← hN]
        show (if 31 + 3 * od p = 76 ∧ 3 = mo p then y else if 31 + 3 * od p = 64 ∧ 3 = 0 then nI 0 else if 31 + 3 * od p = 31 + 3 * od p ∧ 3 = 3 then y else M.1 (31 + 3 * od p) 3) = y
        rw [if_neg (by omega), if_neg (by omega), if_pos ⟨rfl, rfl⟩]
      have e0 : N.2.1 = M.2.1 := by rw [← hN]; rfl
      obtain ⟨r1, r2, r3, r4, r5⟩ := ro
      refine ⟨⟨e0.trans a1, a2, a3, a4, a5, a6, (e _ _ (by omega) (by omega) (by omega)).trans a7, (e _ _ (by omega) (by omega) (by omega)).trans a8, (e _ _ (by omega) (by omega) (by omega)).trans a9, (e _ _ (by omega) (by omega) (by omega)).trans a10, (e _ _ (by omega) (by omega) (by omega)).trans a11, (e _ _ (by omega) (by omega) (by omega)).trans a12, (e _ _ (by omega) (by omega) (by omega)).trans a13, (e _ _ (by omega) (by omega) (by omega)).trans a14⟩, ⟨fun o ho => ?_, fun o k ho hk => ?_, fun o k ho hk => ?_, r4, fun o ho i hi => ?_⟩, ⟨fun q hq => ?_, b2, fun s hs => ?_, fun q hq => ?_, fun q f hq hf3 => ?_⟩⟩
      · rw [e (15 + 2 * o) _ (by omega) (by omega) (by omega), e 65 _ (by omega) (by omega) (by omega), e 68 _ (by omega) (by omega) (by omega)]; exact r1 o ho
      · rw [e 66 _ (by omega) (by omega) (by omega), e 67 _ (by omega) (by omega) (by omega), e (16 + 2 * o) _ (by omega) (by omega) (by omega)]; exact r2 o k ho hk
      · rw [e 69 _ (by omega) (by omega) (by omega)]; exact r3 o k ho hk
      · rw [e (15 + 2 * o) _ (by omega) (by omega) (by omega)]; exact r5 o ho i hi
      · rw [e 70 _ (by omega) (by omega) (by omega)]; exact b1 q hq
      · rw [e 71 _ (by omega) (by omega) (by omega)]; exact b3 s hs
      · have hjq := a2 q (by omega)
        rw [e (31 + 3 * od q) 0 (by omega) (by omega) (by omega), e (31 + 3 * od q) 1 (by omega) (by omega) (by omega), e (31 + 3 * od q) 2 (by omega) (by omega) (by omega), e (31 + 3 * od q) 4 (by omega) (by omega) (by omega), e (31 + 3 * od q) 5 (by omega) (by omega) (by omega), e (31 + 3 * od q) 6 (by omega) (by omega) (by omega), e (31 + 3 * od q) 7 (by omega) (by omega) (by omega), e 72 _ (by omega) (by omega) (by omega), e 73 _ (by omega) (by omega) (by omega), e 75 _ (by omega) (by omega) (by omega), e 77 _ (by omega) (by omega) (by omega), e 78 _ (by omega) (by omega) (by omega), e 79 _ (by omega) (by omega) (by omega), e 80 _ (by omega) (by omega) (by omega)]
        obtain ⟨t1, t2, t3, t4, t5⟩ := b4 q hq
        refine ⟨t1, t2, t3, ?_, t5⟩
        by_cases z : q = p
        · subst z; rw [e1, e2]
        · have z1 : od q ≠ od p := fun u => z (a3 q p (by omega) (by omega) u)
          have z2 : mo q ≠ mo p := fun u => z (b2 q p hq hp u)
          rw [e (31 + 3 * od q) 3 (by omega) (by omega) (by omega), e 76 (mo q) (by omega) (by omega) (by omega)]
          exact t4
      · have hjq := a2 q (by omega)
        rw [e (32 + 3 * od q) _ (by omega) (by omega) (by omega), e (33 + 3 * od q) _ (by omega) (by omega) (by omega), e 74 _ (by omega) (by omega) (by omega)]
        exact b5 q f hq hf3
    · exact ⟨2, _, _, _, by decide, w_setLastDay_x2 hf (s_setLastDay_no2 hf a1 a2 a8 a5 hp hx hn a10 a6 hy), fun z => absurd z (by decide), m_setLastDay_no2 hf a1 a12 a5 b1 hp ((b4 p hp).1.symm.trans hx) (fun q hq z => hn q hq ((b4 q (by omega)).1.trans z)) a14 a6 hy, rfl, _, _, _, _, _, _, _, _, _, _, _, h.ms (((MS.rf _).cd 0).cd 2)⟩
  · exact ⟨1, _, _, _, by decide, w_setLastDay_x1 hf (s_setLastDay_nr hf a1 a2 a8 a5 hn), fun z => absurd z (by decide), m_setLastDay_nr hf a1 a12 a5 b1 (fun q hq z => hn q hq ((b4 q (by omega)).1.trans z)), rfl, _, _, _, _, _, _, _, _, _, _, _, h.ms ((MS.rf _).cd 1)⟩
