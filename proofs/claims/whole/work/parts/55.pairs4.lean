/-! ===== pairs: samples, the main shadow, a range more ===== -/
theorem bkC_sx {M T : pmM} (s : SX M T) (S : Nat → Int32) (mo : Nat → Nat) (n : Nat) : bkC T S mo n = bkC M S mo n := bkC_1 (fun a j h => s.2 a j (by unfold scr; omega)) (s.2 _ _ (by unfold scr; omega)) S mo n
theorem p_decidedBySamples {l : Launch} (hf : l.stackTraces = false) {M : pmM} (h : RLX M) (x : Int32) : PR l kL_decidedBySamples kX4_decidedBySamples 14 4 1 [.ref 0, .int x, .ref 84] [.ref 64, .int x] M := by
  obtain ⟨od, mo, oc, rc, td, g, rg, mc, lo, hi, mb, h⟩ := h
  obtain ⟨⟨a1, a2, a3, a4, a5, a6, a7, a8, a9, a10, a11, a12, a13, a14⟩, ro, ⟨b1, b2, b3, b4, b5⟩⟩ := id h
  rcases find_rule M od rc x with ⟨p, hp, hx, hn⟩ | hn
  · have w := w_decidedBySamples_ok hf (s_decidedBySamples_ok hf a1 a2 a8 a5 h.hfo hp hx hn)
    rw [td_dc h.ti a2 a5 h.hfo hp] at w
    have s := tdM_SX od rc (-1) (nI 0) M
    generalize tdM od rc (-1) (nI 0) M = T at w s
    have h' := (h.sx s).ou (nI (dcN (bkC M (ScF oc rg mc lo hi mb (-1) (nI 0)) mo rc) p)).toInt64
    obtain ⟨⟨c1, c2, c3, c4, c5, c6, c7, c8, c9, c10, c11, c12, c13, c14⟩, ro', ⟨d1, d2, d3, d4, d5⟩⟩ := id h'
    have e72 : ∀ q, T.1 72 (mo q) = M.1 72 (mo q) := fun q => s.2 _ _ (by unfold scr; omega)
    obtain ⟨N, n1, n2, n3⟩ := m_decidedBySamples_ok hf (MS.rf _) c1 h'.toM c12 c5 d1 h'.obf hp ((e72 p).trans ((b4 p hp).1.symm.trans hx)) (fun q hq z => hn q hq ((b4 q (by omega)).1.trans ((e72 q).symm.trans z)))
    rw [show bkC (ouM T (nI (dcN (bkC M (ScF oc rg mc lo hi mb (-1) (nI 0)) mo rc) p)).toInt64) (ScF oc rg mc lo hi mb (-1) (nI 0)) mo rc = bkC M (ScF oc rg mc lo hi mb (-1) (nI 0)) mo rc from bkC_sx (T := T) s _ _ _] at n3
    exact ⟨0, _, nI (dcN (bkC M (ScF oc rg mc lo hi mb (-1) (nI 0)) mo rc) p), N, by decide, w, fun _ => (by rw [n1.1]; rfl), n3, n2, _, _, _, _, _, _, _, _, _, _, _, h'.ms n1⟩
  · obtain ⟨N, n1, n2, n3⟩ := m_decidedBySamples_nr hf (MS.rf M) a1 h.toM a12 a5 b1 h.obf (fun q hq z => hn q hq ((b4 q (by omega)).1.trans z))
    exact ⟨1, _, _, N, by decide, w_decidedBySamples_x1 hf (s_decidedBySamples_nr hf a1 a2 a8 a5 hn), fun z => absurd z (by decide), n3, n2, _, _, _, _, _, _, _, _, _, _, _, h.ms n1⟩
theorem p_mainShadow {l : Launch} (hf : l.stackTraces = false) {M : pmM} (h : RLX M) (x : Int32) : PR l kL_mainShadow kX4_mainShadow 4 2 2 [.ref 0, .int x, .ref 84] [.ref 64, .int x] M := by
  obtain ⟨od, mo, oc, rc, td, g, rg, mc, lo, hi, mb, h⟩ := h
  obtain ⟨⟨a1, a2, a3, a4, a5, a6, a7, a8, a9, a10, a11, a12, a13, a14⟩, ro, ⟨b1, b2, b3, b4, b5⟩⟩ := id h
  rcases find_rule M od rc x with ⟨p, hp, hx, hn⟩ | hn
  · obtain ⟨e1, e2⟩ := ms_ms h.on h.mat hp p (Nat.le_refl p)
    have hle := msG_le M (ScF oc rg mc lo hi mb (-1) (nI 0)) mo p p
    rcases e2 with ⟨g1, g2, g3⟩ | ⟨q, q1, g1, g2, g3⟩
    · obtain ⟨N, n1, n2, n3⟩ := m_mainShadow_no hf (MS.rf M) a1 h.toM a12 a5 b1 h.obf hp ((b4 p hp).1.symm.trans hx) (fun q hq z => hn q hq ((b4 q (by omega)).1.trans z)) g1
      exact ⟨1, _, _, N, by decide, w_mainShadow_x1 hf (s_mainShadow_no hf a1 a2 a8 a5 hp hx hn (by rw [e1, g2]; rfl)), fun z => absurd z (by decide), n3, n2, _, _, _, _, _, _, _, _, _, _, _, h.ms n1⟩
    · have w := w_mainShadow_ok hf (s_mainShadow_ok hf a1 a2 a8 a5 hp hx hn (by rw [e1]; exact nI_ne0 g2 (by omega)))
      rw [g3, (b4 q (by omega)).1] at w
      have h' := h.ou (M.1 72 (mo q)).toInt64
      obtain ⟨⟨c1, c2, c3, c4, c5, c6, c7, c8, c9, c10, c11, c12, c13, c14⟩, ro', ⟨d1, d2, d3, d4, d5⟩⟩ := id h'
      obtain ⟨N, n1, n2, n3⟩ := m_mainShadow_ok (q := q) hf (MS.rf _) c1 h'.toM c12 c5 d1 h'.obf hp ((b4 p hp).1.symm.trans hx) (fun q hq z => hn q hq ((b4 q (by omega)).1.trans z)) (((ms_ms h'.on h'.mat hp p (Nat.le_refl p)).2.elim (fun z => absurd (show (msG M (ScF oc rg mc lo hi mb (-1) (nI 0)) mo p p).2 = -1 from by
        have e : ∀ n, msG (ouM M (M.1 72 (mo q)).toInt64) (ScF oc rg mc lo hi mb (-1) (nI 0)) mo p n = msG M (ScF oc rg mc lo hi mb (-1) (nI 0)) mo p n := fun n => by
          induction n with
          | zero => rfl
          | succ n ih => rw [msG, msG, ih]; rfl
        rw [← e]; exact z.1) (by rw [g1]; exact nI_m1 (by omega))) (fun _ => by
        have e : ∀ n, msG (ouM M (M.1 72 (mo q)).toInt64) (ScF oc rg mc lo hi mb (-1) (nI 0)) mo p n = msG M (ScF oc rg mc lo hi mb (-1) (nI 0)) mo p n := fun n => by
          induction n with
          | zero => rfl
          | succ n ih => rw [msG, msG, ih]; rfl
        rw [e]; exact g1))) q1
      exact ⟨0, _, M.1 72 (mo q), N, by decide, w, fun _ => (by rw [n1.1]; rfl), n3, n2, _, _, _, _, _, _, _, _, _, _, _, h'.ms n1⟩
  · obtain ⟨N, n1, n2, n3⟩ := m_mainShadow_nr hf (MS.rf M) a1 h.toM a12 a5 b1 h.obf (fun q hq z => hn q hq ((b4 q (by omega)).1.trans z))
    exact ⟨1, _, _, N, by decide, w_mainShadow_x1 hf (s_mainShadow_nr hf a1 a2 a8 a5 hn), fun z => absurd z (by decide), n3, n2, _, _, _, _, _, _, _, _, _, _, _, h.ms n1⟩
theorem p_changedByRange {l : Launch} (hf : l.stackTraces = false) {M : pmM} (h : RLX M) (x y z : Int32) : PR l kL_changedByRange kX4_changedByRange 14 3 4 [.ref 0, .int x, .int y, .int z, .ref 84] [.ref 64, .int x, .int y, .int z] M := by
  obtain ⟨od, mo, oc, rc, td, g, rg, mc, lo, hi, mb, h⟩ := h
  obtain ⟨⟨a1, a2, a3, a4, a5, a6, a7, a8, a9, a10, a11, a12, a13, a14⟩, ro, ⟨b1, b2, b3, b4, b5⟩⟩ := id h
  by_cases hx : vp_in x oc
  · obtain ⟨o, ho, rfl⟩ := vp_in_of hx (by omega)
    by_cases hy : ∃ a b : Nat, a ≤ b ∧ b < 32 ∧ y = nI a ∧ z = nI b
    · obtain ⟨a, b, hab, hb, rfl, rfl⟩ := hy
      have w := w_changedByRange_ok hf (s_changedByRange_ok hf a1 a2 a8 a5 h.hfo h.hac a7 a4 ho hab hb)
      rw [cr_dc h.ti a2 a5 h.hfo (h.th ho (rgO a b))] at w
      have s := tdM_SX od rc (nI o) (rgO a b) M
      generalize tdM od rc (nI o) (rgO a b) M = T at w s
      have h' := (h.sx s).ou (nI (ulN (bkC M (ScF oc rg mc lo hi mb (-1) (nI 0)) mo rc) (bkC M (ScF oc rg mc lo hi mb (nI o) (rgO a b)) mo rc))).toInt64
      obtain ⟨⟨c1, c2, c3, c4, c5, c6, c7, c8, c9, c10, c11, c12, c13, c14⟩, ro', ⟨d1, d2, d3, d4, d5⟩⟩ := id h'
      obtain ⟨N, n1, n2, n3⟩ := m_changedByRange_ok hf (MS.rf _) c1 h'.toM c12 c5 d1 h'.obf ho hab hb
      rw [show ∀ S, bkC (ouM T (nI (ulN (bkC M (ScF oc rg mc lo hi mb (-1) (nI 0)) mo rc) (bkC M (ScF oc rg mc lo hi mb (nI o) (rgO a b)) mo rc))).toInt64) S mo rc = bkC M S mo rc from fun S => bkC_sx (T := T) s S mo rc, show ∀ S, bkC (ouM T (nI (ulN (bkC M (ScF oc rg mc lo hi mb (-1) (nI 0)) mo rc) (bkC M (ScF oc rg mc lo hi mb (nI o) (rgO a b)) mo rc))).toInt64) S mo rc = bkC M S mo rc from fun S => bkC_sx (T := T) s S mo rc] at n3
      exact ⟨0, _, nI (ulN (bkC M (ScF oc rg mc lo hi mb (-1) (nI 0)) mo rc) (bkC M (ScF oc rg mc lo hi mb (nI o) (rgO a b)) mo rc)), N, by decide, w, fun _ => (by rw [n1.1]; rfl), n3, n2, _, _, _, _, _, _, _, _, _, _, _, h'.ms n1⟩
    · have hy' : ∀ a b : Nat, a ≤ b → b < 32 → ¬ (y = nI a ∧ z = nI b) := fun a b g1 g2 g3 => hy ⟨a, b, g1, g2, g3.1, g3.2⟩
      obtain ⟨N, n1, n2, n3⟩ := m_changedByRange_no2 hf (MS.rf M) a1 h.toM a12 a5 b1 h.obf ho hy'
      exact ⟨2, _, _, N, by decide, w_changedByRange_x2 hf (s_changedByRange_no2 hf a7 a4 ho hy'), fun z => absurd z (by decide), n3, n2, _, _, _, _, _, _, _, _, _, _, _, h.ms n1⟩
  · obtain ⟨N, n1, n2, n3⟩ := m_changedByRange_no1 hf (MS.rf M) a1 h.toM a12 a5 b1 h.obf hx
    exact ⟨1, _, _, N, by decide, w_changedByRange_x1 hf (s_changedByRange_no1 hf a7 a4 hx), fun z => absurd z (by decide), n3, n2, _, _, _, _, _, _, _, _, _, _, _, h.ms n1⟩
