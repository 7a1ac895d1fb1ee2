/-! ===== pairs without a wrapper, and the two fractions ===== -/
/-- both answer the same; nothing is thrown -/
def PQ (l : Launch) (kw km : pmKey) (d dm : Nat) (M : pmM) : Prop := ∃ (M1 : pmM) (v : Int32) (N : pmM), Sp l kw 86 d 0 0 [.ref 0] M (.inl (some (.int v))) M1 ∧ Sp l km 86 dm 0 0 [.ref 64] M1 (.inl (some (.int v))) N ∧ N.1 64 0 = nI 0 ∧ RLX N
theorem bkC_e {M M' : pmM} (h : M'.1 = M.1) (S : Nat → Int32) (mo : Nat → Nat) (n : Nat) : bkC M' S mo n = bkC M S mo n := bkC_1 (fun a j _ => by rw [h]) (by rw [h]) S mo n
theorem mdB_e {M M' : pmM} (h : M'.1 = M.1) (S : Nat → Int32) (rc : Nat) (mo : Nat → Nat) (p : Nat) : mdB M' S rc mo p = mdB M S rc mo p := by unfold mdB; rw [h, bkC_e h, bkC_e h]
theorem mpF_e {M M' : pmM} (h : M'.1 = M.1) (S : Nat → Int32) (rc : Nat) (mo : Nat → Nat) : ∀ i, mpF M' S rc mo i = mpF M S rc mo i
  | 0 => rfl
  | i + 1 => by rw [mpF, mpF, mpF_e h S rc mo i, mdB_e h]
theorem msoF_e {M M' : pmM} (h : M'.1 = M.1) (S : Nat → Int32) (rc : Nat) : ∀ f mo s, msoF M' S rc f mo s = msoF M S rc f mo s
  | 0, _, _ => rfl
  | f + 1, mo, s => by rw [msoF, msoF, mpF_e h S rc mo, msoF_e h S rc f]
theorem REL.or {M : pmM} {od mo : Nat → Nat} {oc rc td g : Nat} {rg mc : Nat → Nat} {lo hi mb : Nat → Nat → Nat} (h : REL M od mo oc rc td g rg mc lo hi mb) : REL (orM (odM M od) mo rc) od mo oc rc td g rg mc lo hi mb := by
  rw [← odM_self h.1.1, ← orM_id (fun p hp => (h.2.2.1 p hp).1)]; exact h
theorem or_sh {M : pmM} {od mo : Nat → Nat} {oc rc td g : Nat} {rg mc : Nat → Nat} {lo hi mb : Nat → Nat → Nat} (h : REL (orM (odM M od) mo rc) od mo oc rc td g rg mc lo hi mb) {p q : Nat} (hp : p < rc) (hq : q < rc) : REL (orM (odM M (shO od p q)) (shO mo p q) rc) (shO od p q) (shO mo p q) oc rc td g rg mc lo hi mb := h.sh hp hq rfl (fun k hk => orM_70 hk) (fun a k z => (orM_no (by omega)).trans (orM_no (M := odM M od) (by omega)).symm)
theorem p_rules {l : Launch} (hf : l.stackTraces = false) {M : pmM} (h : RLX M) : PQ l kX3_rules kX4_rules 0 0 M := by
  obtain ⟨od, mo, oc, rc, td, g, rg, mc, lo, hi, mb, h⟩ := h
  obtain ⟨⟨a1, a2, a3, a4, a5, a6, a7, a8, a9, a10, a11, a12, a13, a14⟩, ro, ⟨b1, b2, b3, b4, b5⟩⟩ := id h
  exact ⟨M, nI rc, _, s_rules hf a8 a5, m_rules hf a1 a12 a5, rfl, _, _, _, _, _, _, _, _, _, _, _, h.ms ((MS.rf _).cd 0)⟩
theorem p_day {l : Launch} (hf : l.stackTraces = false) {M : pmM} (h : RLX M) : PQ l kX3_day kX4_day 0 0 M := by
  obtain ⟨od, mo, oc, rc, td, g, rg, mc, lo, hi, mb, h⟩ := h
  obtain ⟨⟨a1, a2, a3, a4, a5, a6, a7, a8, a9, a10, a11, a12, a13, a14⟩, ro, ⟨b1, b2, b3, b4, b5⟩⟩ := id h
  exact ⟨M, nI td, _, s_day hf a10 a6, m_day hf a1 a14 a6, rfl, _, _, _, _, _, _, _, _, _, _, _, h.ms ((MS.rf _).cd 0)⟩
theorem p_accepted {l : Launch} (hf : l.stackTraces = false) {M : pmM} (h : RLX M) : PQ l kX3_accepted kX4_accepted 13 3 M := by
  obtain ⟨od, mo, oc, rc, td, g, rg, mc, lo, hi, mb, h⟩ := h
  obtain ⟨⟨a1, a2, a3, a4, a5, a6, a7, a8, a9, a10, a11, a12, a13, a14⟩, ro, ⟨b1, b2, b3, b4, b5⟩⟩ := id h
  have w := s_accepted hf a1 a2 a8 a5
  rw [ac_dc h.ti a5] at w
  obtain ⟨N, n1, n2, n3⟩ := m_accepted hf (MS.rf M) a1 h.toM a12 a5 b1 h.obf
  exact ⟨M, _, N, w, n3, n2, _, _, _, _, _, _, _, _, _, _, _, h.ms n1⟩
theorem p_sortByHits {l : Launch} (hf : l.stackTraces = false) {M : pmM} (h : RLX M) : PQ l kX3_sortByHits kX4_sortByHits 15 4 M := by
  obtain ⟨od, mo, oc, rc, td, g, rg, mc, lo, hi, mb, h⟩ := h
  obtain ⟨⟨a1, a2, a3, a4, a5, a6, a7, a8, a9, a10, a11, a12, a13, a14⟩, ro, ⟨b1, b2, b3, b4, b5⟩⟩ := id h
  have w := s_sortByHits hf a1 a2 a8 a5
  have hiv := ivN_le (hiP M od) rc a5
  obtain ⟨r, r1, r2, -, r4⟩ := so_mso (fun od' mo' => REL (orM (odM M od') mo' rc) od' mo' oc rc td g rg mc lo hi mb) (fun od' mo' fr to h1 h2 h3 => or_sh h3 h1 h2) a5 64 100 od mo 0 h.ti h.or (by omega) (by omega)
  rw [r2] at w
  generalize (soF M rc 64 od 0).1 = od' at w r4
  obtain ⟨N, n1, n2, n3⟩ := m_sortByHits (M := odM M od') (od := od') hf rfl (show MO (odM M od') oc rg mc lo hi mb from h.toM) a12 a5 b1 (show OBF (odM M od') mo rc oc from h.obf) (MS.rf _) ((msoF_e (M := M) (M' := odM M od') rfl (ScF oc rg mc lo hi mb (-1) (nI 0)) rc 100 mo 0).trans r1)
  exact ⟨_, _, N, w, n3, n2, _, _, _, _, _, _, _, _, _, _, _, r4.ms n1⟩
theorem p_shadowedShare {l : Launch} (hf : l.stackTraces = false) {M : pmM} (h : RLX M) : ∃ (k : Nat) (M1 : pmM) (r : UInt32) (N : pmM), k ≤ 4 ∧ SpH l kL_shadowedShare 86 15 1 6 [.ref 0, .ref 85] M (.inl (some (.int (nI k)))) M1 ∧ (k = 0 → vf_n64 (FP.f2d r) ∧ N.2.2.2 85 0 = FP.f2d r) ∧ Sp l kX4_shadowedShare 86 3 0 0 [.ref 64] M1 (.inl (some (.float r))) N ∧ N.1 64 0 = nI k ∧ RLX N := by
  obtain ⟨od, mo, oc, rc, td, g, rg, mc, lo, hi, mb, h⟩ := h
  obtain ⟨⟨a1, a2, a3, a4, a5, a6, a7, a8, a9, a10, a11, a12, a13, a14⟩, ro, ⟨b1, b2, b3, b4, b5⟩⟩ := id h
  have e1 : pcn (ifN (inF M od) rc) = cntN (fun p => onM M (mo p)) rc := (pcn_if _ a5).trans (cntN_congr rc (fun p hp => h.on p hp))
  have e2 : cntN (shF M od) rc = cntN (fun p => onM M (mo p) && decide (dcN (bkC M (ScF oc rg mc lo hi mb (-1) (nI 0)) mo rc) p = 0)) rc := cntN_congr rc (fun p hp => sh_dc h.ti a5 hp)
  by_cases hz : cntN (fun p => onM M (mo p)) rc = 0
  · obtain ⟨N, n1, n2, n3⟩ := m_shadowedShare_no hf (MS.rf M) a1 h.toM a12 a5 b1 h.obf rfl hz
    exact ⟨1, _, _, N, by decide, w_shadowedShare_x1 hf (s_shadowedShare_no hf a1 a2 a8 a5 (e1.trans hz)), fun z => absurd z (by decide), n3, n2, _, _, _, _, _, _, _, _, _, _, _, h.ms n1⟩
  · have w0 := s_shadowedShare_ok hf a1 a2 a8 a5 (fun z => hz (e1.symm.trans z))
    rw [e1, e2] at w0
    have hle : cntN (fun p => onM M (mo p)) rc ≤ rc := cntN_le _ _
    have hr : vf_n64 (FP.f2d (FP.fdiv (FP.i2f (nI (cntN (fun p => onM M (mo p) && decide (dcN (bkC M (ScF oc rg mc lo hi mb (-1) (nI 0)) mo rc) p = 0)) rc))) (FP.i2f (nI (cntN (fun p => onM M (mo p)) rc))))) := fl_f2d (fl_div32 _ (nI_ne0 (Nat.pos_of_ne_zero hz) (by omega)))
    have w := w_shadowedShare_ok hf hr w0
    generalize hR : FP.fdiv (FP.i2f (nI (cntN (fun p => onM M (mo p) && decide (dcN (bkC M (ScF oc rg mc lo hi mb (-1) (nI 0)) mo rc) p = 0)) rc))) (FP.i2f (nI (cntN (fun p => onM M (mo p)) rc))) = r at w hr
    have h' : REL (odD M (FP.f2d r)) od mo oc rc td g rg mc lo hi mb := h.congr rfl (fun _ _ _ => rfl)
    obtain ⟨⟨c1, c2, c3, c4, c5, c6, c7, c8, c9, c10, c11, c12, c13, c14⟩, ro', ⟨d1, d2, d3, d4, d5⟩⟩ := id h'
    obtain ⟨N, n1, n2, n3⟩ := m_shadowedShare_ok (M := odD M (FP.f2d r)) hf (MS.rf _) c1 h'.toM c12 c5 d1 h'.obf (bk := bkC M (ScF oc rg mc lo hi mb (-1) (nI 0)) mo rc) (bkC_e (M := M) rfl _ _ _).symm hz
    rw [show (fun p => onM (odD M (FP.f2d r)) (mo p)) = fun p => onM M (mo p) from rfl, show (fun p => onM (odD M (FP.f2d r)) (mo p) && decide (dcN (bkC M (ScF oc rg mc lo hi mb (-1) (nI 0)) mo rc) p = 0)) = fun p => onM M (mo p) && decide (dcN (bkC M (ScF oc rg mc lo hi mb (-1) (nI 0)) mo rc) p = 0) from rfl, hR] at n3
    exact ⟨0, _, r, N, by decide, w, fun _ => ⟨hr, (by rw [n1.1]; exact (show pm2 M.2.2.2 85 0 (FP.f2d r) 85 0 = FP.f2d r from pm2_e))⟩, n3, n2, _, _, _, _, _, _, _, _, _, _, _, h'.ms n1⟩
theorem p_meanHits {l : Launch} (hf : l.stackTraces = false) {M : pmM} (h : RLX M) : ∃ (k : Nat) (M1 : pmM) (r : UInt64) (N : pmM), k ≤ 4 ∧ SpH l kL_meanHits 86 2 1 6 [.ref 0, .ref 85] M (.inl (some (.int (nI k)))) M1 ∧ (k = 0 → vf_n64 r ∧ N.2.2.2 85 0 = r) ∧ Sp l kX4_meanHits 86 1 0 0 [.ref 64] M1 (.inl (some (.double r))) N ∧ N.1 64 0 = nI k ∧ RLX N := by
  obtain ⟨od, mo, oc, rc, td, g, rg, mc, lo, hi, mb, h⟩ := h
  obtain ⟨⟨a1, a2, a3, a4, a5, a6, a7, a8, a9, a10, a11, a12, a13, a14⟩, ro, ⟨b1, b2, b3, b4, b5⟩⟩ := id h
  by_cases hz : rc = 0
  · obtain ⟨N, n1, n2, n3⟩ := m_meanHits_no hf (MS.rf M) a1 h.toM a12 a5 b1 h.obf hz
    exact ⟨1, _, _, N, by decide, w_meanHits_x1 hf (s_meanHits_no hf (by rw [a8, hz])), fun z => absurd z (by decide), n3, n2, _, _, _, _, _, _, _, _, _, _, _, h.ms n1⟩
  · have w := w_meanHits_ok hf (s_meanHits_ok hf a1 a2 a8 a5 hz)
    rw [su_su h.ti rc (Nat.le_refl rc)] at w
    have hr : vf_n64 (FP.ddiv (FP.i2d (suM M mo rc)) (FP.i2d (nI rc))) := fl_div64 _ (nI_ne0 (Nat.pos_of_ne_zero hz) (by omega))
    have hsu : ∀ x n, suM (odD M x) mo n = suM M mo n := fun x n => by
      induction n with
      | zero => rfl
      | succ n ih => rw [suM, suM, ih]; rfl
    generalize hR : FP.ddiv (FP.i2d (suM M mo rc)) (FP.i2d (nI rc)) = r at w hr
    have h' : REL (odD M r) od mo oc rc td g rg mc lo hi mb := h.congr rfl (fun _ _ _ => rfl)
    obtain ⟨⟨c1, c2, c3, c4, c5, c6, c7, c8, c9, c10, c11, c12, c13, c14⟩, ro', ⟨d1, d2, d3, d4, d5⟩⟩ := id h'
    obtain ⟨N, n1, n2, n3⟩ := m_meanHits_ok hf (MS.rf _) c1 h'.toM c12 c5 d1 h'.obf hz
    rw [hsu, hR] at n3
    exact ⟨0, _, r, N, by decide, w, fun _ => ⟨hr, (by rw [n1.1]; exact (show pm2 M.2.2.2 85 0 r 85 0 = r from pm2_e))⟩, n3, n2, _, _, _, _, _, _, _, _, _, _, _, h'.ms n1⟩
