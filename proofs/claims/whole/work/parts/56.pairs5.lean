/-! ===== pairs that change: days, objects ===== -/
theorem REL.ra {M M' : pmM} {od mo : Nat → Nat} {oc rc td td' g : Nat} {rg mc : Nat → Nat} {lo hi mb : Nat → Nat → Nat} (h : REL M od mo oc rc td g rg mc lo hi mb) (ra : RA M' od oc rc td' g) (q : ∀ a k, ((15 ≤ a ∧ a < 55) ∨ (65 ≤ a ∧ a ≤ 80)) → M'.1 a k = M.1 a k) : REL M' od mo oc rc td' g rg mc lo hi mb := by
  obtain ⟨⟨a1, a2, a3, a4, a5, a6, a7, a8, a9, a10, a11, a12, a13, a14⟩, ⟨r1, r2, r3, r4, r5⟩, ⟨b1, b2, b3, b4, b5⟩⟩ := h
  refine ⟨ra, ⟨fun o ho => ?_, fun o k ho hk => ?_, fun o k ho hk => ?_, r4, fun o ho i hi => ?_⟩, ⟨fun p hp => ?_, b2, fun s hs => ?_, fun p hp => ?_, fun p f hp hf => ?_⟩⟩
  · rw [q (15 + 2 * o) _ (by omega), q 65 _ (by omega), q 68 _ (by omega)]; exact r1 o ho
  · rw [q 66 _ (by omega), q 67 _ (by omega), q (16 + 2 * o) _ (by omega)]; exact r2 o k ho hk
  · rw [q 69 _ (by omega)]; exact r3 o k ho hk
  · rw [q (15 + 2 * o) _ (by omega)]; exact r5 o ho i hi
  · rw [q 70 _ (by omega)]; exact b1 p hp
  · rw [q 71 _ (by omega)]; exact b3 s hs
  · have hj := a2 p (by omega)
    rw [q (31 + 3 * od p) 0 (by omega), q (31 + 3 * od p) 1 (by omega), q (31 + 3 * od p) 2 (by omega), q (31 + 3 * od p) 3 (by omega), q (31 + 3 * od p) 4 (by omega), q (31 + 3 * od p) 5 (by omega), q (31 + 3 * od p) 6 (by omega), q (31 + 3 * od p) 7 (by omega), q 72 _ (by omega), q 73 _ (by omega), q 75 _ (by omega), q 76 _ (by omega), q 77 _ (by omega), q 78 _ (by omega), q 79 _ (by omega), q 80 _ (by omega)]
    exact b4 p hp
  · have hj := a2 p (by omega)
    rw [q (32 + 3 * od p) _ (by omega), q (33 + 3 * od p) _ (by omega), q 74 _ (by omega)]
    exact b5 p f hp hf
theorem p_pass {l : Launch} (hf : l.stackTraces = false) {M : pmM} (h : RLX M) (x : Int32) : PR l kL_pass kX4_pass 3 2 2 [.ref 0, .int x, .ref 84] [.ref 64, .int x] M := by
  obtain ⟨od, mo, oc, rc, td, g, rg, mc, lo, hi, mb, h⟩ := h
  obtain ⟨⟨a1, a2, a3, a4, a5, a6, a7, a8, a9, a10, a11, a12, a13, a14⟩, ro, ⟨b1, b2, b3, b4, b5⟩⟩ := id h
  by_cases hy : ∃ v : Nat, 1 ≤ v ∧ v ≤ 99 ∧ x = nI v
  · obtain ⟨v, h1, h2, rfl⟩ := hy
    by_cases h3 : td + v ≤ 999
    · have w := w_pass_ok hf (s_pass_ok hf a10 a6 h1 h2 h3)
      have m := m_pass_ok (M := ouM (paM M (nI (td + v))) (nI (td + v)).toInt64) hf a1 a14 a6 h1 h2 h3
      refine ⟨0, _, nI (td + v), _, by decide, w, fun _ => rfl, m, rfl, od, mo, oc, rc, td + v, g, rg, mc, lo, hi, mb, h.ra ⟨a1, a2, a3, a4, a5, h3, a7, a8, a9, rfl, a11, a12, a13, rfl⟩ (fun a k q => ?_)⟩
      show pm2 (pm2 (pm2 M.1 0 5 _) 64 0 _) 64 1 _ a k = _
      rw [pm2_n (by omega), pm2_n (by omega), pm2_n (by omega)]
    · exact ⟨1, _, _, _, by decide, w_pass_x1 hf (s_pass_no2 hf a10 a6 h1 h2 (by omega)), fun z => absurd z (by decide), m_pass_no2 hf a1 a14 a6 h1 h2 (by omega), rfl, _, _, _, _, _, _, _, _, _, _, _, h.ms (((MS.rf _).cd 0).cd 1)⟩
  · have hy' : ∀ v : Nat, 1 ≤ v → v ≤ 99 → x ≠ nI v := fun v g1 g2 g3 => hy ⟨v, g1, g2, g3⟩
    exact ⟨1, _, _, _, by decide, w_pass_x1 hf (s_pass_no1 hf hy'), fun z => absurd z (by decide), m_pass_no1 hf a1 hy', rfl, _, _, _, _, _, _, _, _, _, _, _, h.ms (((MS.rf _).cd 0).cd 1)⟩
