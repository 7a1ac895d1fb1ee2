/-! ===== pairs that change: a packet ===== -/
theorem td_m1 {d : Nat} (h : d ≤ 999) : ¬ nI d = -1 := (show ∀ d, d < 1000 → ¬ nI d = -1 by decide +kernel) d (Nat.lt_succ_of_le h)
theorem hi1_no {M : pmM} {j : Nat} {td : Int32} {a k : Nat} (h : a ≠ 31 + 3 * j ∨ k ≠ 6) : hi1 M j td a k = M.1 a k := by
  unfold hi1
  split
  · rfl
  · exact if_neg (fun z => by omega)
theorem hiM_no {M : pmM} {j : Nat} {td : Int32} {a k : Nat} (h : a ≠ 31 + 3 * j ∨ (k ≠ 5 ∧ k ≠ 6 ∧ k ≠ 7)) : (hiM M j td).1 a k = M.1 a k := by
  show (if a = 31 + 3 * j ∧ k = 7 then td else if a = 31 + 3 * j ∧ k = 5 then _ else hi1 M j td a k) = _
  rw [if_neg (by omega), if_neg (by omega), hi1_no (by omega)]
theorem hiM_5 (M : pmM) (j : Nat) (td : Int32) : (hiM M j td).1 (31 + 3 * j) 5 = M.1 (31 + 3 * j) 5 + nI 1 := by
  show (if 31 + 3 * j = 31 + 3 * j ∧ 5 = 7 then td else if 31 + 3 * j = 31 + 3 * j ∧ 5 = 5 then hi1 M j td (31 + 3 * j) 5 + nI 1 else _) = _
  rw [if_neg (by omega), if_pos ⟨rfl, rfl⟩, hi1_no (by omega)]
theorem hiM_6 (M : pmM) (j : Nat) (td : Int32) : (hiM M j td).1 (31 + 3 * j) 6 = M.1 (31 + 3 * j) 6 + (if M.1 (31 + 3 * j) 7 = td then nI 0 else nI 1) := by
  show (if 31 + 3 * j = 31 + 3 * j ∧ 6 = 7 then td else if 31 + 3 * j = 31 + 3 * j ∧ 6 = 5 then _ else hi1 M j td (31 + 3 * j) 6) = _
  rw [if_neg (by omega), if_neg (by omega)]
  unfold hi1
  split
  · exact (Int32.add_zero _).symm
  · exact if_pos ⟨rfl, rfl⟩
theorem hiM_7 (M : pmM) (j : Nat) (td : Int32) : (hiM M j td).1 (31 + 3 * j) 7 = td := if_pos ⟨rfl, rfl⟩
theorem mhM_no {M : pmM} {s a k : Nat} (h : a < 77 ∨ 80 < a ∨ k ≠ s) : (mhM M s).1 a k = M.1 a k := by
  show (if a = 80 ∧ k = s then _ else if a = 79 ∧ k = s then _ else if a = 78 ∧ k = s then _ else if a = 77 ∧ k = s then _ else M.1 a k) = _
  rw [if_neg (by omega), if_neg (by omega), if_neg (by omega), if_neg (by omega)]
theorem mhM_77 (M : pmM) (s : Nat) : (mhM M s).1 77 s = M.1 77 s + nI 1 := by
  show (if 77 = 80 ∧ s = s then M.1 64 1 else if 77 = 79 ∧ s = s then M.1 79 s + (if M.1 80 s = M.1 64 1 then nI 0 else nI 1) else if 77 = 78 ∧ s = s then M.1 64 1 else if 77 = 77 ∧ s = s then M.1 77 s + nI 1 else M.1 77 s) = _
  rw [if_neg (by omega), if_neg (by omega), if_neg (by omega), if_pos ⟨rfl, rfl⟩]
theorem mhM_78 (M : pmM) (s : Nat) : (mhM M s).1 78 s = M.1 64 1 := by
  show (if 78 = 80 ∧ s = s then M.1 64 1 else if 78 = 79 ∧ s = s then M.1 79 s + (if M.1 80 s = M.1 64 1 then nI 0 else nI 1) else if 78 = 78 ∧ s = s then M.1 64 1 else if 78 = 77 ∧ s = s then M.1 77 s + nI 1 else M.1 78 s) = _
  rw [if_neg (by omega), if_neg (by omega), if_pos ⟨rfl, rfl⟩]
theorem mhM_79 (M : pmM) (s : Nat) : (mhM M s).1 79 s = M.1 79 s + (if M.1 80 s = M.1 64 1 then nI 0 else nI 1) := by
  show (if 79 = 80 ∧ s = s then M.1 64 1 else if 79 = 79 ∧ s = s then M.1 79 s + (if M.1 80 s = M.1 64 1 then nI 0 else nI 1) else if 79 = 78 ∧ s = s then M.1 64 1 else if 79 = 77 ∧ s = s then M.1 77 s + nI 1 else M.1 79 s) = _
  rw [if_neg (by omega), if_pos ⟨rfl, rfl⟩]
theorem mhM_80 (M : pmM) (s : Nat) : (mhM M s).1 80 s = M.1 64 1 := if_pos ⟨rfl, rfl⟩
theorem REL.hit {M N : pmM} {od mo : Nat → Nat} {oc rc td g : Nat} {rg mc : Nat → Nat} {lo hi mb : Nat → Nat → Nat} (h : REL M od mo oc rc td g rg mc lo hi mb) {p : Nat} (hp : p < rc) (e0 : N.2.1 = M.2.1) (e : ∀ a k, (a = 31 + 3 * od p → k ≠ 5 ∧ k ≠ 6 ∧ k ≠ 7) → (a < 77 ∨ 80 < a ∨ k ≠ mo p) → N.1 a k = M.1 a k)
    (e5 : N.1 (31 + 3 * od p) 5 = M.1 (31 + 3 * od p) 5 + nI 1) (e6 : N.1 (31 + 3 * od p) 6 = M.1 (31 + 3 * od p) 6 + (if M.1 (31 + 3 * od p) 7 = M.1 0 5 then nI 0 else nI 1)) (e7 : N.1 (31 + 3 * od p) 7 = M.1 0 5) (e77 : N.1 77 (mo p) = M.1 77 (mo p) + nI 1) (e78 : N.1 78 (mo p) = M.1 64 1) (e79 : N.1 79 (mo p) = M.1 79 (mo p) + (if M.1 80 (mo p) = M.1 64 1 then nI 0 else nI 1)) (e80 : N.1 80 (mo p) = M.1 64 1) : REL N od mo oc rc td g rg mc lo hi mb := by
  obtain ⟨⟨a1, a2, a3, a4, a5, a6, a7, a8, a9, a10, a11, a12, a13, a14⟩, ⟨r1, r2, r3, r4, r5⟩, ⟨b1, b2, b3, b4, b5⟩⟩ := id h
  have hj := a2 p (by omega)
  refine ⟨⟨e0.trans a1, a2, a3, a4, a5, a6, (e _ _ (by omega) (by omega)).trans a7, (e _ _ (by omega) (by omega)).trans a8, (e _ _ (by omega) (by omega)).trans a9, (e _ _ (by omega) (by omega)).trans a10, (e _ _ (by omega) (by omega)).trans a11, (e _ _ (by omega) (by omega)).trans a12, (e _ _ (by omega) (by omega)).trans a13, (e _ _ (by omega) (by omega)).trans a14⟩, ⟨fun o ho => ?_, fun o k ho hk => ?_, fun o k ho hk => ?_, r4, fun o ho i hi => ?_⟩, ⟨fun q hq => ?_, b2, fun s hs => ?_, fun q hq => ?_, fun q f hq hf3 => ?_⟩⟩
  · rw [e (15 + 2 * o) _ (by omega) (by omega), e 65 _ (by omega) (by omega), e 68 _ (by omega) (by omega)]; exact r1 o ho
  · rw [e 66 _ (by omega) (by omega), e 67 _ (by omega) (by omega), e (16 + 2 * o) _ (by omega) (by omega)]; exact r2 o k ho hk
  · rw [e 69 _ (by omega) (by omega)]; exact r3 o k ho hk
  · rw [e (15 + 2 * o) _ (by omega) (by omega)]; exact r5 o ho i hi
  · rw [e 70 _ (by omega) (by omega)]; exact b1 q hq
  · rw [e 71 _ (by omega) (by omega)]; exact b3 s hs
  · have hjq := a2 q (by omega)
    rw [e (31 + 3 * od q) 0 (by omega) (by omega), e (31 + 3 * od q) 1 (by omega) (by omega), e (31 + 3 * od q) 2 (by omega) (by omega), e (31 + 3 * od q) 3 (by omega) (by omega), e (31 + 3 * od q) 4 (by omega) (by omega), e 72 _ (by omega) (by omega), e 73 _ (by omega) (by omega), e 75 _ (by omega) (by omega), e 76 _ (by omega) (by omega)]
    obtain ⟨t1, t2, t3, t4, t5, t6, t7, t8⟩ := b4 q hq
    refine ⟨t1, t2, t3, t4, ?_⟩
    by_cases z : q = p
    · subst z
      rw [e5, e6, e7, e77, e78, e79, e80, t5, t6, t7, a10, a14]
      exact ⟨rfl, rfl, rfl, (if_neg (td_m1 a6)).symm⟩
    · have z1 : od q ≠ od p := fun u => z (a3 q p (by omega) (by omega) u)
      have z2 : mo q ≠ mo p := fun u => z (b2 q p hq hp u)
      rw [e (31 + 3 * od q) 5 (by omega) (by omega), e (31 + 3 * od q) 6 (by omega) (by omega), e (31 + 3 * od q) 7 (by omega) (by omega), e 77 _ (by omega) (by omega), e 78 _ (by omega) (by omega), e 79 _ (by omega) (by omega), e 80 _ (by omega) (by omega)]
      exact ⟨t5, t6, t7, t8⟩
  · have hjq := a2 q (by omega)
    rw [e (32 + 3 * od q) _ (by omega) (by omega), e (33 + 3 * od q) _ (by omega) (by omega), e 74 _ (by omega) (by omega)]
    exact b5 q f hq hf3

theorem p_packet {l : Launch} (hf : l.stackTraces = false) {M : pmM} (h : RLX M) (x y z : Int32) : PR l kL_packet kX4_packet 4 3 3 [.ref 0, .int x, .int y, .int z, .ref 84] [.ref 64, .int x, .int y, .int z] M := by
  obtain ⟨od, mo, oc, rc, td, g, rg, mc, lo, hi, mb, h⟩ := h
  obtain ⟨⟨a1, a2, a3, a4, a5, a6, a7, a8, a9, a10, a11, a12, a13, a14⟩, ro, ⟨b1, b2, b3, b4, b5⟩⟩ := id h
  by_cases hx : vp_in x 32 ∧ vp_in y 32 ∧ vp_in z 32
  · obtain ⟨a, ha, rfl⟩ := vp_in_of hx.1 (by decide)
    obtain ⟨b, hb, rfl⟩ := vp_in_of hx.2.1 (by decide)
    obtain ⟨c, hc, rfl⟩ := vp_in_of hx.2.2 (by decide)
    rcases first_b (fun p => msP M od p a b c) rc with ⟨p, hp, hy, hn⟩ | hn
    · have w := w_packet_ok hf (s_packet_ok hf a1 a2 a8 a5 ha hb hc h.hac hp (ms_and hy) (fun q hq => ms_not (hn q hq)))
      rw [(b4 p hp).2.1] at w
      have hj := a2 p (by omega)
      have hs := (b1 p hp).2
      have eT : ∀ a k, a < 31 ∨ 55 ≤ a → (ouM (hiM M (od p) (M.1 0 5)) (if M.1 73 (mo p) = 0 then nI 100 else nI 97).toInt64).1 a k = M.1 a k := fun a k z => hiM_no (by omega)
      have m0 := fun (T : pmM) (hT : T.2.1 = mrC od) (eT : ∀ a k, a < 31 ∨ 55 ≤ a → T.1 a k = M.1 a k) => m_packet_ok (mo := mo) (rc := rc) hf (MS.rf T) hT (h.toM.congr (eT _ _ (by omega)) (fun a k h1 h2 => eT _ _ (by omega))) ((eT _ _ (by omega)).trans a12) a5 (fun q hq => by rw [eT 70 _ (by omega)]; exact b1 q hq) (fun q f hq hf3 => by rw [eT 74 _ (by omega)]; exact h.obf q f hq hf3) (bk := bkC M (ScF oc rg mc lo hi mb (-1) (nI 0)) mo rc) (bkC_1 (fun a j h => eT a j (by omega)) (eT _ _ (by omega)) _ mo rc).symm ha hb hc hp ((bit_ms h ha hb hc hp).trans hy) (fun q hq => (bit_ms h ha hb hc (by omega)).trans (hn q hq))
      obtain ⟨N, n1, n2, n3⟩ := m0 (ouM (hiM M (od p) (M.1 0 5)) (if M.1 73 (mo p) = 0 then nI 100 else nI 97).toInt64) a1 eT
      rw [eT 73 (mo p) (by omega)] at n3
      refine ⟨0, _, (if M.1 73 (mo p) = 0 then nI 100 else nI 97), N, by decide, w, fun _ => (by rw [n1.1]; rfl), n3, n2, _, _, _, _, _, _, _, _, _, _, _, REL.ms (h.hit (N := mhM (ouM (hiM M (od p) (M.1 0 5)) (if M.1 73 (mo p) = 0 then nI 100 else nI 97).toInt64) (mo p)) hp rfl (fun a k q1 q2 => (mhM_no q2).trans (hiM_no (by omega))) ?_ ?_ ?_ ?_ ?_ ?_ ?_) n1⟩
      · exact (mhM_no (by omega)).trans (hiM_5 _ _ _)
      · exact (mhM_no (by omega)).trans (hiM_6 _ _ _)
      · exact (mhM_no (by omega)).trans (hiM_7 _ _ _)
      · rw [mhM_77, eT 77 _ (by omega)]
      · rw [mhM_78, eT 64 _ (by omega)]
      · rw [mhM_79, eT 79 _ (by omega), eT 80 _ (by omega), eT 64 _ (by omega)]
      · rw [mhM_80, eT 64 _ (by omega)]
    · have w := w_packet_ok hf (s_packet_no hf a1 a2 a8 a5 ha hb hc (fun q hq => ms_not (hn q hq)))
      have h' := h.ou (nI 100).toInt64
      obtain ⟨⟨c1, c2, c3, c4, c5, c6, c7, c8, c9, c10, c11, c12, c13, c14⟩, ro', ⟨d1, d2, d3, d4, d5⟩⟩ := id h'
      obtain ⟨N, n1, n2, n3⟩ := m_packet_no hf (MS.rf _) c1 h'.toM c12 c5 d1 h'.obf rfl ha hb hc (fun q hq => (bit_ms h' ha hb hc hq).trans (hn q hq))
      exact ⟨0, _, nI 100, N, by decide, w, fun _ => (by rw [n1.1]; rfl), n3, n2, _, _, _, _, _, _, _, _, _, _, _, h'.ms n1⟩
  · obtain ⟨N, n1, n2, n3⟩ := m_packet_bad hf (MS.rf M) a1 h.toM a12 a5 b1 h.obf hx
    exact ⟨1, _, _, N, by decide, w_packet_x1 hf (s_packet_bad hf hx), fun z => absurd z (by decide), n3, n2, _, _, _, _, _, _, _, _, _, _, _, h.ms n1⟩
