/-! ===== more pairs ===== -/
def PRB (l : Launch) (kw km : pmKey) (d dm mc : Nat) (aw am : List Value) (M : pmM) : Prop :=
  ∃ (k : Nat) (M1 : pmM) (q : Bool) (N : pmM), k ≤ 4 ∧ SpH l kw 86 d mc (6 * mc) aw M (.inl (some (.int (nI k)))) M1 ∧ (k = 0 → N.2.2.1 84 0 = bL q) ∧ Sp l km 86 dm 0 0 am M1 (.inl (some (.int (bI q)))) N ∧ N.1 64 0 = nI k ∧ RLX N
theorem bI_L (b : Bool) : (bI b).toInt64 = bL b := by cases b <;> rfl
theorem idle_eq {M : pmM} {od mo : Nat → Nat} {oc rc td g : Nat} {rg mc : Nat → Nat} {lo hi mb : Nat → Nat → Nat} (h : REL M od mo oc rc td g rg mc lo hi mb) {p : Nat} (hp : p < rc) : idE M (od p) = M.1 64 1 - M.1 78 (mo p) := by
  obtain ⟨⟨a1, a2, a3, a4, a5, a6, a7, a8, a9, a10, a11, a12, a13, a14⟩, ro, ⟨b1, b2, b3, b4, b5⟩⟩ := h
  unfold idE
  rw [(b4 p hp).2.2.2.2.2.2.2, a10, a14]
  by_cases q : M.1 (31 + 3 * od p) 7 = -1
  · rw [if_pos q, if_pos q]
  · rw [if_neg q, if_neg q]
theorem p_idleDays {l : Launch} (hf : l.stackTraces = false) {M : pmM} (h : RLX M) (x : Int32) : PR l kL_idleDays kX4_idleDays 3 2 1 [.ref 0, .int x, .ref 84] [.ref 64, .int x] M := by
  obtain ⟨od, mo, oc, rc, td, g, rg, mc, lo, hi, mb, h⟩ := h
  obtain ⟨⟨a1, a2, a3, a4, a5, a6, a7, a8, a9, a10, a11, a12, a13, a14⟩, ro, ⟨b1, b2, b3, b4, b5⟩⟩ := id h
  rcases find_rule M od rc x with ⟨p, hp, hx, hn⟩ | hn
  · have w := w_idleDays_ok hf (s_idleDays_ok hf a1 a2 a8 a5 hp hx hn)
    rw [idle_eq h hp] at w
    exact ⟨0, _, M.1 64 1 - M.1 78 (mo p), _, by decide, w, fun _ => rfl, m_idleDays_ok (M := ouM M (M.1 64 1 - M.1 78 (mo p)).toInt64) hf a1 a12 a5 b1 hp ((b4 p hp).1.symm.trans hx) (fun q hq z => hn q hq ((b4 q (by omega)).1.trans z)), rfl, _, _, _, _, _, _, _, _, _, _, _, (h.ou _).ms ((MS.rf _).cd 0)⟩
  · exact ⟨1, _, _, _, by decide, w_idleDays_x1 hf (s_idleDays_nr hf a1 a2 a8 a5 hn), fun z => absurd z (by decide), m_idleDays_nr hf a1 a12 a5 b1 (fun q hq z => hn q hq ((b4 q (by omega)).1.trans z)), rfl, _, _, _, _, _, _, _, _, _, _, _, h.ms ((MS.rf _).cd 1)⟩
theorem p_isInForce {l : Launch} (hf : l.stackTraces = false) {M : pmM} (h : RLX M) (x : Int32) : PRB l kL_isInForce kX4_isInForce 3 2 1 [.ref 0, .int x, .ref 84] [.ref 64, .int x] M := by
  obtain ⟨od, mo, oc, rc, td, g, rg, mc, lo, hi, mb, h⟩ := h
  obtain ⟨⟨a1, a2, a3, a4, a5, a6, a7, a8, a9, a10, a11, a12, a13, a14⟩, ro, ⟨b1, b2, b3, b4, b5⟩⟩ := id h
  rcases find_rule M od rc x with ⟨p, hp, hx, hn⟩ | hn
  · have w := w_isInForce_ok hf (s_isInForce_ok hf a1 a2 a8 a5 hp hx hn)
    rw [h.on p hp] at w
    exact ⟨0, _, (onM M (mo p)), _, by decide, w, fun _ => rfl, m_isInForce_ok (M := ouM M (bL (onM M (mo p)))) hf a1 a12 a5 b1 hp ((b4 p hp).1.symm.trans hx) (fun q hq z => hn q hq ((b4 q (by omega)).1.trans z)), rfl, _, _, _, _, _, _, _, _, _, _, _, (h.ou _).ms ((MS.rf _).cd 0)⟩
  · exact ⟨1, _, false, _, by decide, w_isInForce_x1 hf (s_isInForce_nr hf a1 a2 a8 a5 hn), fun z => absurd z (by decide), m_isInForce_nr hf a1 a12 a5 b1 (fun q hq z => hn q hq ((b4 q (by omega)).1.trans z)), rfl, _, _, _, _, _, _, _, _, _, _, _, h.ms ((MS.rf _).cd 1)⟩
theorem p_isShadowed {l : Launch} (hf : l.stackTraces = false) {M : pmM} (h : RLX M) (x : Int32) : PRB l kL_isShadowed kX4_isShadowed 15 4 1 [.ref 0, .int x, .ref 84] [.ref 64, .int x] M := by
  obtain ⟨od, mo, oc, rc, td, g, rg, mc, lo, hi, mb, h⟩ := h
  obtain ⟨⟨a1, a2, a3, a4, a5, a6, a7, a8, a9, a10, a11, a12, a13, a14⟩, ro, ⟨b1, b2, b3, b4, b5⟩⟩ := id h
  rcases find_rule M od rc x with ⟨p, hp, hx, hn⟩ | hn
  · have w := w_isShadowed_ok hf (s_isShadowed_ok hf a1 a2 a8 a5 hp hx hn)
    rw [sh_dc h.ti a5 hp] at w
    have h' := h.ou (bL (onM M (mo p) && decide (dcN (bkC M (ScF oc rg mc lo hi mb (-1) (nI 0)) mo rc) p = 0)))
    obtain ⟨⟨c1, c2, c3, c4, c5, c6, c7, c8, c9, c10, c11, c12, c13, c14⟩, ro', ⟨d1, d2, d3, d4, d5⟩⟩ := id h'
    obtain ⟨N, n1, n2, n3⟩ := m_isShadowed_ok hf (MS.rf _) c1 h'.toM c12 c5 d1 h'.obf hp ((b4 p hp).1.symm.trans hx) (fun q hq z => hn q hq ((b4 q (by omega)).1.trans z))
    exact ⟨0, _, (onM M (mo p) && decide (dcN (bkC M (ScF oc rg mc lo hi mb (-1) (nI 0)) mo rc) p = 0)), N, by decide, w, fun _ => (by rw [n1.1]; exact rfl), n3, n2, _, _, _, _, _, _, _, _, _, _, _, h'.ms n1⟩
  · obtain ⟨N, n1, n2, n3⟩ := m_isShadowed_nr hf (MS.rf M) a1 h.toM a12 a5 b1 h.obf (fun q hq z => hn q hq ((b4 q (by omega)).1.trans z))
    exact ⟨1, _, false, N, by decide, w_isShadowed_x1 hf (s_isShadowed_nr hf a1 a2 a8 a5 hn), fun z => absurd z (by decide), n3, n2, _, _, _, _, _, _, _, _, _, _, _, h.ms n1⟩
theorem p_ruleAt {l : Launch} (hf : l.stackTraces = false) {M : pmM} (h : RLX M) (x : Int32) : PR l kL_ruleAt kX4_ruleAt 3 2 1 [.ref 0, .int x, .ref 84] [.ref 64, .int x] M := by
  obtain ⟨od, mo, oc, rc, td, g, rg, mc, lo, hi, mb, h⟩ := h
  obtain ⟨⟨a1, a2, a3, a4, a5, a6, a7, a8, a9, a10, a11, a12, a13, a14⟩, ro, ⟨b1, b2, b3, b4, b5⟩⟩ := id h
  by_cases hx : vp_in x rc
  · obtain ⟨p, hp, rfl⟩ := vp_in_of hx (by omega)
    have w := w_ruleAt_ok hf (s_ruleAt_ok hf a1 a2 a8 a5 hp)
    rw [(b4 p hp).1] at w
    exact ⟨0, _, M.1 72 (mo p), _, by decide, w, fun _ => rfl, m_ruleAt_ok (M := ouM M (M.1 72 (mo p)).toInt64) hf a1 a12 a5 b1 hp, rfl, _, _, _, _, _, _, _, _, _, _, _, (h.ou _).ms ((MS.rf _).cd 0)⟩
  · exact ⟨1, _, _, _, by decide, w_ruleAt_x1 hf (s_ruleAt_no hf a8 a5 hx), fun z => absurd z (by decide), m_ruleAt_no hf a1 a12 a5 hx, rfl, _, _, _, _, _, _, _, _, _, _, _, h.ms (((MS.rf _).cd 0).cd 1)⟩
theorem p_values {l : Launch} (hf : l.stackTraces = false) {M : pmM} (h : RLX M) (x : Int32) : PR l kL_values kX4_values 12 2 1 [.ref 0, .int x, .ref 84] [.ref 64, .int x] M := by
  obtain ⟨od, mo, oc, rc, td, g, rg, mc, lo, hi, mb, h⟩ := h
  obtain ⟨⟨a1, a2, a3, a4, a5, a6, a7, a8, a9, a10, a11, a12, a13, a14⟩, ro, ⟨b1, b2, b3, b4, b5⟩⟩ := id h
  by_cases hx : vp_in x oc
  · obtain ⟨p, hp, rfl⟩ := vp_in_of hx (by omega)
    have w := w_values_ok hf (s_values_ok hf a1 ro.hrg a7 a4 hp)
    rw [vo_sc h.ot hp, bcE_cnt] at w
    have h' := h.ou (nI (cntN (hasb (ScF oc rg mc lo hi mb (-1) (nI 0) p)) 32)).toInt64
    have m := m_values_ok (M := ouM M (nI (cntN (hasb (ScF oc rg mc lo hi mb (-1) (nI 0) p)) 32)).toInt64) hf a1 h'.toM hp
    rw [spS_ag (fun o k h1 h2 => (h.toM.2.2.2.2.2 o k h1 h2).2) (-1) (nI 0) _ (fun _ => nI 0) p hp] at m
    exact ⟨0, _, nI (cntN (hasb (ScF oc rg mc lo hi mb (-1) (nI 0) p)) 32), _, by decide, w, fun _ => rfl, m, rfl, _, _, _, _, _, _, _, _, _, _, _, h'.ms (((MS.rf _).cd 0).set _)⟩
  · exact ⟨1, _, _, _, by decide, w_values_x1 hf (s_values_no hf a7 a4 hx), fun z => absurd z (by decide), m_values_no1 hf a1 h.toM hx, rfl, _, _, _, _, _, _, _, _, _, _, _, h.ms (((MS.rf _).cd 0).cd 1)⟩
theorem p_changedByMove {l : Launch} (hf : l.stackTraces = false) {M : pmM} (h : RLX M) (x y : Int32) : PR l kL_changedByMove kX4_changedByMove 15 4 2 [.ref 0, .int x, .int y, .ref 84] [.ref 64, .int x, .int y] M := by
  obtain ⟨od, mo, oc, rc, td, g, rg, mc, lo, hi, mb, h⟩ := h
  obtain ⟨⟨a1, a2, a3, a4, a5, a6, a7, a8, a9, a10, a11, a12, a13, a14⟩, ro, ⟨b1, b2, b3, b4, b5⟩⟩ := id h
  rcases find_rule M od rc x with ⟨p, hp, hx, hn⟩ | hn
  · by_cases hy : vp_in y rc
    · obtain ⟨q, hq, rfl⟩ := vp_in_of hy (by omega)
      have w := w_changedByMove_ok hf (s_changedByMove_ok hf a1 a2 a8 a5 hp hx hn hq)
      rw [ch_ul h.ti a5 hp hq] at w
      have h' := h.ou (nI (ulN (bkC M (ScF oc rg mc lo hi mb (-1) (nI 0)) mo rc) (bkC M (ScF oc rg mc lo hi mb (-1) (nI 0)) (shO mo p q) rc))).toInt64
      obtain ⟨⟨c1, c2, c3, c4, c5, c6, c7, c8, c9, c10, c11, c12, c13, c14⟩, ro', ⟨d1, d2, d3, d4, d5⟩⟩ := id h'
      obtain ⟨N, n1, n2, n3⟩ := m_changedByMove_ok hf (MS.rf _) c1 h'.toM c12 c5 d1 h'.obf hp ((b4 p hp).1.symm.trans hx) (fun q hq z => hn q hq ((b4 q (by omega)).1.trans z)) hq
      exact ⟨0, _, nI (ulN (bkC M (ScF oc rg mc lo hi mb (-1) (nI 0)) mo rc) (bkC M (ScF oc rg mc lo hi mb (-1) (nI 0)) (shO mo p q) rc)), N, by decide, w, fun _ => (by rw [n1.1]; rfl), n3, n2, _, _, _, _, _, _, _, _, _, _, _, h'.ms n1⟩
    · obtain ⟨N, n1, n2, n3⟩ := m_changedByMove_no2 hf (MS.rf M) a1 h.toM a12 a5 b1 h.obf hp ((b4 p hp).1.symm.trans hx) (fun q hq z => hn q hq ((b4 q (by omega)).1.trans z)) hy
      exact ⟨2, _, _, N, by decide, w_changedByMove_x2 hf (s_changedByMove_no2 hf a1 a2 a8 a5 hp hx hn hy), fun z => absurd z (by decide), n3, n2, _, _, _, _, _, _, _, _, _, _, _, h.ms n1⟩
  · obtain ⟨N, n1, n2, n3⟩ := m_changedByMove_nr hf (MS.rf M) a1 h.toM a12 a5 b1 h.obf (fun q hq z => hn q hq ((b4 q (by omega)).1.trans z))
    exact ⟨1, _, _, N, by decide, w_changedByMove_x1 hf (s_changedByMove_nr hf a1 a2 a8 a5 hn), fun z => absurd z (by decide), n3, n2, _, _, _, _, _, _, _, _, _, _, _, h.ms n1⟩
