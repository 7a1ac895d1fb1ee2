/-! ===== pairs of calls: FilterRules' and the model's ===== -/
theorem REL.congr {M M' : pmM} {od mo : Nat → Nat} {oc rc td g : Nat} {rg mc : Nat → Nat} {lo hi mb : Nat → Nat → Nat} (h : REL M od mo oc rc td g rg mc lo hi mb) (e : M'.2.1 = M.2.1) (q : ∀ a k, (a = 0 ∨ (15 ≤ a ∧ a < 55) ∨ (a = 64 ∧ k ≠ 0) ∨ (65 ≤ a ∧ a ≤ 80)) → M'.1 a k = M.1 a k) : REL M' od mo oc rc td g rg mc lo hi mb := by
  obtain ⟨⟨a1, a2, a3, a4, a5, a6, a7, a8, a9, a10, a11, a12, a13, a14⟩, ⟨r1, r2, r3, r4, r5⟩, ⟨b1, b2, b3, b4, b5⟩⟩ := h
  refine ⟨⟨e.trans a1, a2, a3, a4, a5, a6, (q _ _ (by omega)).trans a7, (q _ _ (by omega)).trans a8, (q _ _ (by omega)).trans a9, (q _ _ (by omega)).trans a10, (q _ _ (by omega)).trans a11, (q _ _ (by omega)).trans a12, (q _ _ (by omega)).trans a13, (q _ _ (by omega)).trans a14⟩, ⟨fun o ho => ?_, fun o k ho hk => ?_, fun o k ho hk => ?_, r4, fun o ho i hi => ?_⟩, ⟨fun p hp => ?_, b2, fun s hs => ?_, fun p hp => ?_, fun p f hp hf => ?_⟩⟩
  · rw [q (15 + 2 * o) _ (by omega), q 65 _ (by omega), q 68 _ (by omega)]; exact r1 o ho
  · rw [q 66 _ (by omega), q 67 _ (by omega), q (16 + 2 * o) _ (by omega)]; exact r2 o k ho hk
  · rw [q 69 _ (by omega)]; exact r3 o k ho hk
  · rw [q (15 + 2 * o) _ (by omega)]; exact r5 o ho i hi
  · rw [q 70 _ (by omega)]; exact b1 p hp
  · rw [q 71 _ (by omega)]; exact b3 s hs
  · have hj := a2 p (by omega)
    rw [q (31 + 3 * od p) 0 (by omega), q (31 + 3 * od p) 1 (by omega), q (31 + 3 * od p) 2 (by omega), q (31 + 3 * od p) 3 (by omega), q (31 + 3 * od p) 4 (by omega), q (31 + 3 * od p) 5 (by omega), q (31 + 3 * od p) 6 (by omega), q (31 + 3 * od p) 7 (by omega), q 72 _ (by omega), q 73 _ (by omega), q 75 _ (by omega), q 76 _ (by omega), q 77 _ (by omega), q 78 _ (by omega), q 79 _ (by omega), q 80 _ (by omega)]
    exact b4 p hp
  · have hj := a2 p (by omega)
    rw [q (32 + 3 * od p) _ (by omega), q (33 + 3 * od p) _ (by omega), q 74 _ (by omega)]
    exact b5 p f hp hf
theorem REL.sx {M M' : pmM} {od mo : Nat → Nat} {oc rc td g : Nat} {rg mc : Nat → Nat} {lo hi mb : Nat → Nat → Nat} (h : REL M od mo oc rc td g rg mc lo hi mb) (s : SX M M') : REL M' od mo oc rc td g rg mc lo hi mb := h.congr (by rw [s.1]) (fun a k q => s.2 a k (by unfold scr; omega))
theorem REL.ms {M M' : pmM} {od mo : Nat → Nat} {oc rc td g : Nat} {rg mc : Nat → Nat} {lo hi mb : Nat → Nat → Nat} (h : REL M od mo oc rc td g rg mc lo hi mb) (s : MS M M') : REL M' od mo oc rc td g rg mc lo hi mb := h.congr (by rw [s.1]) (fun a k q => s.2 a k (by unfold msc; omega))
theorem REL.ou {M : pmM} {od mo : Nat → Nat} {oc rc td g : Nat} {rg mc : Nat → Nat} {lo hi mb : Nat → Nat → Nat} (h : REL M od mo oc rc td g rg mc lo hi mb) (y : Int64) : REL (ouM M y) od mo oc rc td g rg mc lo hi mb := h.congr rfl (fun _ _ _ => rfl)
def RLX (M : pmM) : Prop := ∃ (od mo : Nat → Nat) (oc rc td g : Nat) (rg mc : Nat → Nat) (lo hi mb : Nat → Nat → Nat), REL M od mo oc rc td g rg mc lo hi mb
theorem find_rule (M : pmM) (od : Nat → Nat) (rc : Nat) (x : Int32) : (∃ p, p < rc ∧ M.1 (31 + 3 * od p) 0 = x ∧ ∀ q, q < p → M.1 (31 + 3 * od q) 0 ≠ x) ∨ ∀ q, q < rc → M.1 (31 + 3 * od q) 0 ≠ x := by
  by_cases h : fi (fun p => decide (M.1 (31 + 3 * od p) 0 = x)) rc < rc
  · refine Or.inl ⟨_, h, of_decide_eq_true (fi_yes _ _ h), fun q hq => ?_⟩
    exact of_decide_eq_false (fi_no _ _ q hq)
  · refine Or.inr (fun q hq => ?_)
    have := fi_le (fun p => decide (M.1 (31 + 3 * od p) 0 = x)) rc
    exact of_decide_eq_false (fi_no (fun p => decide (M.1 (31 + 3 * od p) 0 = x)) rc q (by omega))
/-- the wrapper answers k, the model's code is k, and where k is 0 both give the same -/
def PR (l : Launch) (kw km : pmKey) (d dm mc : Nat) (aw am : List Value) (M : pmM) : Prop :=
  ∃ (k : Nat) (M1 : pmM) (v : Int32) (N : pmM), k ≤ 4 ∧ SpH l kw 86 d mc (6 * mc) aw M (.inl (some (.int (nI k)))) M1 ∧ (k = 0 → N.2.2.1 84 0 = v.toInt64) ∧ Sp l km 86 dm 0 0 am M1 (.inl (some (.int v))) N ∧ N.1 64 0 = nI k ∧ RLX N
theorem p_hits {l : Launch} (hf : l.stackTraces = false) {M : pmM} (h : RLX M) (x : Int32) : PR l kL_hits kX4_hits 3 2 1 [.ref 0, .int x, .ref 84] [.ref 64, .int x] M := by
  obtain ⟨od, mo, oc, rc, td, g, rg, mc, lo, hi, mb, h⟩ := h
  obtain ⟨⟨a1, a2, a3, a4, a5, a6, a7, a8, a9, a10, a11, a12, a13, a14⟩, ro, ⟨b1, b2, b3, b4, b5⟩⟩ := id h
  rcases find_rule M od rc x with ⟨p, hp, hx, hn⟩ | hn
  · have w := w_hits_ok hf (s_hits_ok hf a1 a2 a8 a5 hp hx hn)
    rw [(b4 p hp).2.2.2.2.1] at w
    exact ⟨0, _, M.1 77 (mo p), _, by decide, w, fun _ => rfl, m_hits_ok (M := ouM M (M.1 77 (mo p)).toInt64) hf a1 a12 a5 b1 hp ((b4 p hp).1.symm.trans hx) (fun q hq z => hn q hq ((b4 q (by omega)).1.trans z)), rfl, _, _, _, _, _, _, _, _, _, _, _, (h.ou _).ms ((MS.rf _).cd 0)⟩
  · exact ⟨1, _, _, _, by decide, w_hits_x1 hf (s_hits_nr hf a1 a2 a8 a5 hn), fun z => absurd z (by decide), m_hits_nr hf a1 a12 a5 b1 (fun q hq z => hn q hq ((b4 q (by omega)).1.trans z)), rfl, _, _, _, _, _, _, _, _, _, _, _, h.ms ((MS.rf _).cd 1)⟩
theorem p_busyDays {l : Launch} (hf : l.stackTraces = false) {M : pmM} (h : RLX M) (x : Int32) : PR l kL_busyDays kX4_busyDays 3 2 1 [.ref 0, .int x, .ref 84] [.ref 64, .int x] M := by
  obtain ⟨od, mo, oc, rc, td, g, rg, mc, lo, hi, mb, h⟩ := h
  obtain ⟨⟨a1, a2, a3, a4, a5, a6, a7, a8, a9, a10, a11, a12, a13, a14⟩, ro, ⟨b1, b2, b3, b4, b5⟩⟩ := id h
  rcases find_rule M od rc x with ⟨p, hp, hx, hn⟩ | hn
  · have w := w_busyDays_ok hf (s_busyDays_ok hf a1 a2 a8 a5 hp hx hn)
    rw [(b4 p hp).2.2.2.2.2.1] at w
    exact ⟨0, _, M.1 79 (mo p), _, by decide, w, fun _ => rfl, m_busyDays_ok (M := ouM M (M.1 79 (mo p)).toInt64) hf a1 a12 a5 b1 hp ((b4 p hp).1.symm.trans hx) (fun q hq z => hn q hq ((b4 q (by omega)).1.trans z)), rfl, _, _, _, _, _, _, _, _, _, _, _, (h.ou _).ms ((MS.rf _).cd 0)⟩
  · exact ⟨1, _, _, _, by decide, w_busyDays_x1 hf (s_busyDays_nr hf a1 a2 a8 a5 hn), fun z => absurd z (by decide), m_busyDays_nr hf a1 a12 a5 b1 (fun q hq z => hn q hq ((b4 q (by omega)).1.trans z)), rfl, _, _, _, _, _, _, _, _, _, _, _, h.ms ((MS.rf _).cd 1)⟩
theorem p_decided {l : Launch} (hf : l.stackTraces = false) {M : pmM} (h : RLX M) (x : Int32) : PR l kL_decided kX4_decided 14 3 1 [.ref 0, .int x, .ref 84] [.ref 64, .int x] M := by
  obtain ⟨od, mo, oc, rc, td, g, rg, mc, lo, hi, mb, h⟩ := h
  obtain ⟨⟨a1, a2, a3, a4, a5, a6, a7, a8, a9, a10, a11, a12, a13, a14⟩, ro, ⟨b1, b2, b3, b4, b5⟩⟩ := id h
  rcases find_rule M od rc x with ⟨p, hp, hx, hn⟩ | hn
  · have w := w_decided_ok hf (s_decided_ok hf a1 a2 a8 a5 hp hx hn)
    rw [de_dc h.ti a5 hp] at w
    have h' := h.ou (nI (dcN (bkC M (ScF oc rg mc lo hi mb (-1) (nI 0)) mo rc) p)).toInt64
    obtain ⟨⟨c1, c2, c3, c4, c5, c6, c7, c8, c9, c10, c11, c12, c13, c14⟩, ro', ⟨d1, d2, d3, d4, d5⟩⟩ := id h'
    obtain ⟨N, n1, n2, n3⟩ := m_decided_ok hf (MS.rf _) c1 h'.toM c12 c5 d1 h'.obf hp ((b4 p hp).1.symm.trans hx) (fun q hq z => hn q hq ((b4 q (by omega)).1.trans z))
    exact ⟨0, _, nI (dcN (bkC M (ScF oc rg mc lo hi mb (-1) (nI 0)) mo rc) p), N, by decide, w, fun _ => (by rw [n1.1]; rfl), n3, n2, _, _, _, _, _, _, _, _, _, _, _, h'.ms n1⟩
  · obtain ⟨N, n1, n2, n3⟩ := m_decided_nr hf (MS.rf M) a1 h.toM a12 a5 b1 h.obf (fun q hq z => hn q hq ((b4 q (by omega)).1.trans z))
    exact ⟨1, _, _, N, by decide, w_decided_x1 hf (s_decided_nr hf a1 a2 a8 a5 hn), fun z => absurd z (by decide), n3, n2, _, _, _, _, _, _, _, _, _, _, _, h.ms n1⟩
theorem p_matched {l : Launch} (hf : l.stackTraces = false) {M : pmM} (h : RLX M) (x : Int32) : PR l kL_matched kX4_matched 4 2 1 [.ref 0, .int x, .ref 84] [.ref 64, .int x] M := by
  obtain ⟨od, mo, oc, rc, td, g, rg, mc, lo, hi, mb, h⟩ := h
  obtain ⟨⟨a1, a2, a3, a4, a5, a6, a7, a8, a9, a10, a11, a12, a13, a14⟩, ro, ⟨b1, b2, b3, b4, b5⟩⟩ := id h
  rcases find_rule M od rc x with ⟨p, hp, hx, hn⟩ | hn
  · have w := w_matched_ok hf (s_matched_ok hf a1 a2 a8 a5 hp hx hn)
    rw [ma_sz h.mat hp] at w
    have h' := h.ou (nI (szC (ScF oc rg mc lo hi mb (-1) (nI 0)) (M.1 74 (3 * mo p + 0)) * szC (ScF oc rg mc lo hi mb (-1) (nI 0)) (M.1 74 (3 * mo p + 1)) * szC (ScF oc rg mc lo hi mb (-1) (nI 0)) (M.1 74 (3 * mo p + 2)))).toInt64
    obtain ⟨⟨c1, c2, c3, c4, c5, c6, c7, c8, c9, c10, c11, c12, c13, c14⟩, ro', ⟨d1, d2, d3, d4, d5⟩⟩ := id h'
    obtain ⟨N, n1, n2, n3⟩ := m_matched_ok hf (MS.rf _) c1 h'.toM c12 c5 d1 h'.obf hp ((b4 p hp).1.symm.trans hx) (fun q hq z => hn q hq ((b4 q (by omega)).1.trans z))
    exact ⟨0, _, nI (szC (ScF oc rg mc lo hi mb (-1) (nI 0)) (M.1 74 (3 * mo p + 0)) * szC (ScF oc rg mc lo hi mb (-1) (nI 0)) (M.1 74 (3 * mo p + 1)) * szC (ScF oc rg mc lo hi mb (-1) (nI 0)) (M.1 74 (3 * mo p + 2))), N, by decide, w, fun _ => (by rw [n1.1]; rfl), n3, n2, _, _, _, _, _, _, _, _, _, _, _, h'.ms n1⟩
  · obtain ⟨N, n1, n2, n3⟩ := m_matched_nr hf (MS.rf M) a1 h.toM a12 a5 b1 h.obf (fun q hq z => hn q hq ((b4 q (by omega)).1.trans z))
    exact ⟨1, _, _, N, by decide, w_matched_x1 hf (s_matched_nr hf a1 a2 a8 a5 hn), fun z => absurd z (by decide), n3, n2, _, _, _, _, _, _, _, _, _, _, _, h.ms n1⟩
