/-! ===== pairs: values, users, expiry, the decider ===== -/
section P3
variable {M : pmM} {od mo : Nat → Nat} {oc rc td g : Nat} {rg mc : Nat → Nat} {lo hi mb : Nat → Nat → Nat}
theorem ion_mu (h : REL M od mo oc rc td g rg mc lo hi mb) {o p f : Nat} (ho : o < oc) (hp : p < rc) (hf : f < 3) : ionF M (M.1 (32 + 3 * od p) f) o = muF M mo (dpS oc mc mb o) p f := by
  have h8 := h.1.2.2.2.1
  have hot := h.ot
  unfold muF
  rw [(h.2.2.2.2.2.2 p f hp hf).1]
  rcases h.obf p f hp hf with hx | ⟨y, hy, hx⟩
  · rw [hx]; rfl
  · rw [hx, decide_eq_false (nI_m1 (by omega)), ixN_nI (by omega), Bool.not_false, Bool.true_and, Bool.eq_iff_iff, ion_iff hot.2.1 hot.1 hot.2.2.1 hy ho, dp_iff hot.2.1 hot.1 hy ho]
theorem us_mu (h : REL M od mo oc rc td g rg mc lo hi mb) {o : Nat} (ho : o < oc) : cntN (usB M od o) rc = cntN (muB M mo (dpS oc mc mb o)) rc := cntN_congr rc (fun p hp => by
  unfold usB muB
  rw [ion_mu h ho hp (show 0 < 3 by decide), ion_mu h ho hp (show 1 < 3 by decide), ion_mu h ho hp (show 2 < 3 by decide)]
  simp only [anyB, Bool.false_or, Bool.or_assoc])
theorem ex_me (h : REL M od mo oc rc td g rg mc lo hi mb) (ow d : Int32) : cntN (exB M od ow d) rc = cntN (meB M mo ow d) rc := cntN_congr rc (fun p hp => by
  obtain ⟨⟨a1, a2, a3, a4, a5, a6, a7, a8, a9, a10, a11, a12, a13, a14⟩, ro, ⟨b1, b2, b3, b4, b5⟩⟩ := id h
  unfold exB meB
  rw [h.on p hp, (b4 p hp).2.2.1, (b4 p hp).2.2.2.1, a10, a14]
  congr 1
  unfold lastF
  by_cases q1 : M.1 76 (mo p) = -1
  · rw [decide_eq_true q1, decide_eq_true (show M.1 76 (mo p) = -1 ∨ nI td + d ≤ M.1 76 (mo p) from Or.inl q1)]
    cases onM M (mo p) <;> rfl
  · rw [decide_eq_false q1]
    by_cases q2 : nI td + d ≤ M.1 76 (mo p)
    · rw [decide_eq_true (show M.1 76 (mo p) = -1 ∨ nI td + d ≤ M.1 76 (mo p) from Or.inr q2), decide_eq_false (Int32.not_lt.mpr q2)]
      cases onM M (mo p) <;> rfl
    · rw [decide_eq_false (show ¬ (M.1 76 (mo p) = -1 ∨ nI td + d ≤ M.1 76 (mo p)) from fun z => z.elim q1 q2), decide_eq_true (Int32.not_le.mp q2)]
      cases onM M (mo p) <;> rfl)
theorem first_b (b : Nat → Bool) (n : Nat) : (∃ p, p < n ∧ b p = true ∧ ∀ q, q < p → b q = false) ∨ ∀ q, q < n → b q = false := by
  by_cases h : fi b n < n
  · exact Or.inl ⟨_, h, fi_yes b n h, fun q hq => fi_no b n q hq⟩
  · have := fi_le b n
    exact Or.inr (fun q hq => fi_no b n q (by omega))
theorem bit_ms (h : REL M od mo oc rc td g rg mc lo hi mb) {a b c p : Nat} (ha : a < 32) (hb : b < 32) (hc : c < 32) (hp : p < rc) : (bkC M (ScF oc rg mc lo hi mb (-1) (nI 0)) mo rc a &&& bkC M (ScF oc rg mc lo hi mb (-1) (nI 0)) mo rc (32 + b) &&& bkC M (ScF oc rg mc lo hi mb (-1) (nI 0)) mo rc (64 + c)).testBit p = msP M od p a b c := by
  rw [bkC_bits M _ mo rc ha hb hc, ifN_tb, decide_eq_true hp, Bool.true_and]
  exact (h.ti.1 p hp a b c ha hb hc).symm
theorem ms_and {p a b c : Nat} (h : msP M od p a b c = true) : inF M od p = true ∧ maF M (od p) a b c = true := by
  unfold msP at h
  exact (Bool.and_eq_true _ _ ▸ h : _ ∧ _)
theorem ms_not {p a b c : Nat} (h : msP M od p a b c = false) : ¬ (inF M od p = true ∧ maF M (od p) a b c = true) := fun z => by
  unfold msP at h
  rw [z.1, z.2] at h
  exact Bool.noConfusion h
end P3
theorem p_hasValue {l : Launch} (hf : l.stackTraces = false) {M : pmM} (h : RLX M) (x y : Int32) : PRB l kL_hasValue kX4_hasValue 12 2 2 [.ref 0, .int x, .int y, .ref 84] [.ref 64, .int x, .int y] M := by
  obtain ⟨od, mo, oc, rc, td, g, rg, mc, lo, hi, mb, h⟩ := h
  obtain ⟨⟨a1, a2, a3, a4, a5, a6, a7, a8, a9, a10, a11, a12, a13, a14⟩, ro, ⟨b1, b2, b3, b4, b5⟩⟩ := id h
  by_cases hx : vp_in x oc
  · obtain ⟨p, hp, rfl⟩ := vp_in_of hx (by omega)
    by_cases hy : vp_in y 32
    · obtain ⟨v, hv, rfl⟩ := vp_in_of hy (by decide)
      have w := w_hasValue_ok hf (s_hasValue_ok hf a1 ro.hrg a7 a4 hp hv)
      rw [vo_sc h.ot hp] at w
      have h' := h.ou (bL (hasb ((ScF oc rg mc lo hi mb (-1) (nI 0)) p) v))
      have m := m_hasValue_ok (M := ouM M (bL (hasb ((ScF oc rg mc lo hi mb (-1) (nI 0)) p) v))) hf a1 h'.toM hp hv
      rw [spS_ag (fun o k h1 h2 => (h.toM.2.2.2.2.2 o k h1 h2).2) (-1) (nI 0) _ (fun _ => nI 0) p hp] at m
      exact ⟨0, _, hasb ((ScF oc rg mc lo hi mb (-1) (nI 0)) p) v, _, by decide, w, fun _ => rfl, m, rfl, _, _, _, _, _, _, _, _, _, _, _, h'.ms (((MS.rf _).cd 0).set _)⟩
    · exact ⟨2, _, false, _, by decide, w_hasValue_x2 hf (s_hasValue_no2 hf a7 a4 hp hy), fun z => absurd z (by decide), m_hasValue_no2 hf a1 h.toM hp hy, rfl, _, _, _, _, _, _, _, _, _, _, _, h.ms ((MS.rf _).cd 2)⟩
  · exact ⟨1, _, false, _, by decide, w_hasValue_x1 hf (s_hasValue_no1 hf a7 a4 hx), fun z => absurd z (by decide), m_hasValue_no1 hf a1 h.toM hx, rfl, _, _, _, _, _, _, _, _, _, _, _, h.ms ((MS.rf _).cd 1)⟩
theorem p_users {l : Launch} (hf : l.stackTraces = false) {M : pmM} (h : RLX M) (x : Int32) : PR l kL_users kX4_users 12 2 1 [.ref 0, .int x, .ref 84] [.ref 64, .int x] M := by
  obtain ⟨od, mo, oc, rc, td, g, rg, mc, lo, hi, mb, h⟩ := h
  obtain ⟨⟨a1, a2, a3, a4, a5, a6, a7, a8, a9, a10, a11, a12, a13, a14⟩, ro, ⟨b1, b2, b3, b4, b5⟩⟩ := id h
  by_cases hx : vp_in x oc
  · obtain ⟨p, hp, rfl⟩ := vp_in_of hx (by omega)
    have w := w_users_ok hf (s_users_ok hf a1 a2 a8 a5 h.hfo a7 a4 hp)
    rw [us_mu h hp] at w
    have h' := h.ou (nI (cntN (muB M mo (dpS oc mc mb p)) rc)).toInt64
    obtain ⟨⟨c1, c2, c3, c4, c5, c6, c7, c8, c9, c10, c11, c12, c13, c14⟩, ro', ⟨d1, d2, d3, d4, d5⟩⟩ := id h'
    exact ⟨0, _, nI (cntN (muB M mo (dpS oc mc mb p)) rc), _, by decide, w, fun _ => rfl, m_users_ok (M := ouM M (nI (cntN (muB M mo (dpS oc mc mb p)) rc)).toInt64) hf a1 h'.toM a12 a5 b1 (fun q f g1 g2 => (h.obf q f g1 g2).fOk a4) hp, rfl, _, _, _, _, _, _, _, _, _, _, _, h'.ms ((MS.rf _).cd 0)⟩
  · exact ⟨1, _, _, _, by decide, w_users_x1 hf (s_users_no hf a7 a4 hx), fun z => absurd z (by decide), m_users_no1 hf a1 h.toM hx, rfl, _, _, _, _, _, _, _, _, _, _, _, h.ms (((MS.rf _).cd 0).cd 1)⟩
theorem p_expiring {l : Launch} (hf : l.stackTraces = false) {M : pmM} (h : RLX M) (x y : Int32) : PR l kL_expiring kX4_expiring 3 2 2 [.ref 0, .int x, .int y, .ref 84] [.ref 64, .int x, .int y] M := by
  obtain ⟨od, mo, oc, rc, td, g, rg, mc, lo, hi, mb, h⟩ := h
  obtain ⟨⟨a1, a2, a3, a4, a5, a6, a7, a8, a9, a10, a11, a12, a13, a14⟩, ro, ⟨b1, b2, b3, b4, b5⟩⟩ := id h
  by_cases hx : vp_in x 6
  · obtain ⟨ow, how, rfl⟩ := vp_in_of hx (by decide)
    by_cases hy : ∃ v : Nat, 1 ≤ v ∧ v ≤ 99 ∧ y = nI v
    · obtain ⟨dd, hd1, hd2, rfl⟩ := hy
      have w := w_expiring_ok hf (s_expiring_ok hf a1 a2 a8 a5 how hd1 hd2)
      rw [ex_me h] at w
      exact ⟨0, _, nI (cntN (meB M mo (nI ow) (nI dd)) rc), _, by decide, w, fun _ => rfl, m_expiring_ok (M := ouM M (nI (cntN (meB M mo (nI ow) (nI dd)) rc)).toInt64) hf a1 a12 a5 b1 how hd1 hd2, rfl, _, _, _, _, _, _, _, _, _, _, _, (h.ou _).ms ((MS.rf _).cd 0)⟩
    · have hy' : ∀ v : Nat, 1 ≤ v → v ≤ 99 → y ≠ nI v := fun v g1 g2 g3 => hy ⟨v, g1, g2, g3⟩
      exact ⟨1, _, _, _, by decide, w_expiring_x1 hf (s_expiring_no2 hf how hy'), fun z => absurd z (by decide), m_expiring_no2 hf a1 how hy', rfl, _, _, _, _, _, _, _, _, _, _, _, h.ms (((MS.rf _).cd 0).cd 1)⟩
  · exact ⟨1, _, _, _, by decide, w_expiring_x1 hf (s_expiring_no1 hf hx), fun z => absurd z (by decide), m_expiring_no1 hf a1 hx, rfl, _, _, _, _, _, _, _, _, _, _, _, h.ms (((MS.rf _).cd 0).cd 1)⟩
theorem p_decider {l : Launch} (hf : l.stackTraces = false) {M : pmM} (h : RLX M) (x y z : Int32) : PR l kL_decider kX4_decider 4 3 3 [.ref 0, .int x, .int y, .int z, .ref 84] [.ref 64, .int x, .int y, .int z] M := by
  obtain ⟨od, mo, oc, rc, td, g, rg, mc, lo, hi, mb, h⟩ := h
  obtain ⟨⟨a1, a2, a3, a4, a5, a6, a7, a8, a9, a10, a11, a12, a13, a14⟩, ro, ⟨b1, b2, b3, b4, b5⟩⟩ := id h
  by_cases hx : vp_in x 32 ∧ vp_in y 32 ∧ vp_in z 32
  · obtain ⟨a, ha, rfl⟩ := vp_in_of hx.1 (by decide)
    obtain ⟨b, hb, rfl⟩ := vp_in_of hx.2.1 (by decide)
    obtain ⟨c, hc, rfl⟩ := vp_in_of hx.2.2 (by decide)
    rcases first_b (fun p => msP M od p a b c) rc with ⟨p, hp, hy, hn⟩ | hn
    · have w := w_decider_ok hf (s_decider_ok hf a1 a2 a8 a5 ha hb hc hp (ms_and hy) (fun q hq => ms_not (hn q hq)))
      rw [(b4 p hp).1] at w
      have h' := h.ou (M.1 72 (mo p)).toInt64
      obtain ⟨⟨c1, c2, c3, c4, c5, c6, c7, c8, c9, c10, c11, c12, c13, c14⟩, ro', ⟨d1, d2, d3, d4, d5⟩⟩ := id h'
      obtain ⟨N, n1, n2, n3⟩ := m_decider_ok hf (MS.rf _) c1 h'.toM c12 c5 d1 h'.obf rfl ha hb hc hp ((bit_ms h' ha hb hc hp).trans hy) (fun q hq => (bit_ms h' ha hb hc (by omega)).trans (hn q hq))
      exact ⟨0, _, M.1 72 (mo p), N, by decide, w, fun _ => (by rw [n1.1]; rfl), n3, n2, _, _, _, _, _, _, _, _, _, _, _, h'.ms n1⟩
    · have w := w_decider_ok hf (s_decider_no hf a1 a2 a8 a5 ha hb hc (fun q hq => ms_not (hn q hq)))
      have h' := h.ou ((-1 : Int32)).toInt64
      obtain ⟨⟨c1, c2, c3, c4, c5, c6, c7, c8, c9, c10, c11, c12, c13, c14⟩, ro', ⟨d1, d2, d3, d4, d5⟩⟩ := id h'
      obtain ⟨N, n1, n2, n3⟩ := m_decider_no hf (MS.rf _) c1 h'.toM c12 c5 d1 h'.obf rfl ha hb hc (fun q hq => (bit_ms h' ha hb hc hq).trans (hn q hq))
      exact ⟨0, _, -1, N, by decide, w, fun _ => (by rw [n1.1]; rfl), n3, n2, _, _, _, _, _, _, _, _, _, _, _, h'.ms n1⟩
  · obtain ⟨N, n1, n2, n3⟩ := m_decider_bad hf (MS.rf M) a1 h.toM a12 a5 b1 h.obf hx
    exact ⟨1, _, _, N, by decide, w_decider_x1 hf (s_decider_bad hf hx), fun z => absurd z (by decide), n3, n2, _, _, _, _, _, _, _, _, _, _, _, h.ms n1⟩
