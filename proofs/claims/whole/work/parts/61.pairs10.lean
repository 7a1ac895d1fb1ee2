/-! ===== pairs that change: the order ===== -/
theorem sg_inv (fr to k : Nat) : sgO to fr (sgO fr to k) = k := by
  unfold sgO shO
  split
  · rename_i h; subst h; exact if_pos rfl
  · split
    · rename_i h1 h2
      show (if k + 1 = fr then to else if to ≤ k + 1 ∧ k + 1 < fr then k + 1 + 1 else if fr < k + 1 ∧ k + 1 ≤ to then k + 1 - 1 else k + 1) = k
      rw [if_neg (by omega), if_neg (by omega), if_pos (by omega)]; omega
    · split
      · rename_i h1 h2 h3
        show (if k - 1 = fr then to else if to ≤ k - 1 ∧ k - 1 < fr then k - 1 + 1 else if fr < k - 1 ∧ k - 1 ≤ to then k - 1 - 1 else k - 1) = k
        rw [if_neg (by omega), if_pos (by omega)]; omega
      · rename_i h1 h2 h3
        show (if k = fr then to else if to ≤ k ∧ k < fr then k + 1 else if fr < k ∧ k ≤ to then k - 1 else k) = k
        by_cases e : k = fr
        · omega
        · rw [if_neg e, if_neg (by omega), if_neg (by omega)]
theorem REL.sh {M N : pmM} {od mo : Nat → Nat} {oc rc td g : Nat} {rg mc : Nat → Nat} {lo hi mb : Nat → Nat → Nat} (h : REL M od mo oc rc td g rg mc lo hi mb) {p q : Nat} (hp : p < rc) (hq : q < rc) (eR : N.2.1 = mrC (shO od p q)) (e70 : ∀ k, k < rc → N.1 70 k = nI (shO mo p q k)) (e : ∀ a k, (a = 0 ∨ (15 ≤ a ∧ a < 55) ∨ (a = 64 ∧ k ≠ 0) ∨ (65 ≤ a ∧ a ≤ 80 ∧ a ≠ 70)) → N.1 a k = M.1 a k) : REL N (shO od p q) (shO mo p q) oc rc td g rg mc lo hi mb := by
  obtain ⟨⟨a1, a2, a3, a4, a5, a6, a7, a8, a9, a10, a11, a12, a13, a14⟩, ⟨r1, r2, r3, r4, r5⟩, ⟨b1, b2, b3, b4, b5⟩⟩ := h
  have hs : ∀ k, k < rc → sgO p q k < rc := fun k hk => sg_lt hp hq hk
  have hs8 : ∀ k, k < 8 → sgO p q k < 8 := fun k hk => sg_lt (by omega) (by omega) hk
  have hi' : ∀ j k, sgO p q j = sgO p q k → j = k := fun j k z => by rw [← sg_inv p q j, z, sg_inv]
  refine ⟨⟨eR, fun k hk => ?_, fun j k hj hk z => ?_, a4, a5, a6, (e _ _ (by omega)).trans a7, (e _ _ (by omega)).trans a8, (e _ _ (by omega)).trans a9, (e _ _ (by omega)).trans a10, (e _ _ (by omega)).trans a11, (e _ _ (by omega)).trans a12, (e _ _ (by omega)).trans a13, (e _ _ (by omega)).trans a14⟩, ⟨fun o ho => ?_, fun o k ho hk => ?_, fun o k ho hk => ?_, r4, fun o ho i hi => ?_⟩, ⟨fun k hk => ?_, fun j k hj hk z => ?_, fun s hs' => ?_, fun k hk => ?_, fun k f hk hf => ?_⟩⟩
  · rw [shO_sg]; exact a2 _ (hs8 k hk)
  · rw [shO_sg, shO_sg] at z; exact hi' j k (a3 _ _ (hs8 j hj) (hs8 k hk) z)
  · rw [e (15 + 2 * o) _ (by omega), e 65 _ (by omega), e 68 _ (by omega)]; exact r1 o ho
  · rw [e 66 _ (by omega), e 67 _ (by omega), e (16 + 2 * o) _ (by omega)]; exact r2 o k ho hk
  · rw [e 69 _ (by omega)]; exact r3 o k ho hk
  · rw [e (15 + 2 * o) _ (by omega)]; exact r5 o ho i hi
  · refine ⟨e70 k hk, ?_⟩; rw [shO_sg]; exact (b1 _ (hs k hk)).2
  · rw [shO_sg, shO_sg] at z; exact hi' j k (b2 _ _ (hs j hj) (hs k hk) z)
  · rw [e 71 _ (by omega), b3 s hs']
    constructor
    · intro z k hk; rw [shO_sg]; exact z _ (hs k hk)
    · intro z k hk
      have := z (sgO q p k) (sg_lt hq hp hk)
      rw [shO_sg, sg_inv] at this; exact this
  · rw [shO_sg, shO_sg]
    have hk' := hs k hk
    generalize sgO p q k = k' at hk'
    have hj := a2 k' (by omega)
    rw [e (31 + 3 * od k') 0 (by omega), e (31 + 3 * od k') 1 (by omega), e (31 + 3 * od k') 2 (by omega), e (31 + 3 * od k') 3 (by omega), e (31 + 3 * od k') 4 (by omega), e (31 + 3 * od k') 5 (by omega), e (31 + 3 * od k') 6 (by omega), e (31 + 3 * od k') 7 (by omega), e 72 _ (by omega), e 73 _ (by omega), e 75 _ (by omega), e 76 _ (by omega), e 77 _ (by omega), e 78 _ (by omega), e 79 _ (by omega), e 80 _ (by omega)]
    exact b4 k' hk'
  · rw [shO_sg, shO_sg]
    have hk' := hs k hk
    generalize sgO p q k = k' at hk'
    have hj := a2 k' (by omega)
    rw [e (32 + 3 * od k') _ (by omega), e (33 + 3 * od k') _ (by omega), e 74 _ (by omega)]
    exact b5 k' f hk' hf

theorem REL.drop {M N : pmM} {od mo mo2 : Nat → Nat} {oc n td g : Nat} {rg mc : Nat → Nat} {lo hi mb : Nat → Nat → Nat} (h : REL M od mo oc (n + 1) td g rg mc lo hi mb) (hm2 : ∀ k, k < n → mo2 k = mo k) (eR : N.2.1 = M.2.1) (e03 : N.1 0 3 = nI n) (e648 : N.1 64 8 = nI n) (e70 : ∀ k, k < n → N.1 70 k = M.1 70 k) (e71 : ∀ s, s < 8 → N.1 71 s = if s = mo n then 0 else M.1 71 s) (e : ∀ a k, ((a = 0 ∧ k ≠ 3) ∨ (15 ≤ a ∧ a < 55) ∨ (a = 64 ∧ k ≠ 0 ∧ k ≠ 8) ∨ (65 ≤ a ∧ a ≤ 80 ∧ a ≠ 70 ∧ a ≠ 71)) → N.1 a k = M.1 a k) : REL N od mo2 oc n td g rg mc lo hi mb := by
  obtain ⟨⟨a1, a2, a3, a4, a5, a6, a7, a8, a9, a10, a11, a12, a13, a14⟩, ⟨r1, r2, r3, r4, r5⟩, ⟨b1, b2, b3, b4, b5⟩⟩ := h
  refine ⟨⟨eR.trans a1, a2, a3, a4, by omega, a6, (e _ _ (by omega)).trans a7, e03, (e _ _ (by omega)).trans a9, (e _ _ (by omega)).trans a10, (e _ _ (by omega)).trans a11, e648, (e _ _ (by omega)).trans a13, (e _ _ (by omega)).trans a14⟩, ⟨fun o ho => ?_, fun o k ho hk => ?_, fun o k ho hk => ?_, r4, fun o ho i hi => ?_⟩, ⟨fun k hk => ?_, fun j k hj hk z => ?_, fun s hs' => ?_, fun k hk => ?_, fun k f hk hf => ?_⟩⟩
  · rw [e (15 + 2 * o) _ (by omega), e 65 _ (by omega), e 68 _ (by omega)]; exact r1 o ho
  · rw [e 66 _ (by omega), e 67 _ (by omega), e (16 + 2 * o) _ (by omega)]; exact r2 o k ho hk
  · rw [e 69 _ (by omega)]; exact r3 o k ho hk
  · rw [e (15 + 2 * o) _ (by omega)]; exact r5 o ho i hi
  · rw [e70 k hk, hm2 k hk]; exact b1 k (by omega)
  · rw [hm2 j hj, hm2 k hk] at z; exact b2 j k (by omega) (by omega) z
  · rw [e71 s hs']
    by_cases q : s = mo n
    · rw [if_pos q]
      refine ⟨fun _ k hk z => ?_, fun _ => rfl⟩
      rw [hm2 k hk, q] at z
      have := b2 k n (by omega) (by omega) z
      omega
    · rw [if_neg q, b3 s hs']
      constructor
      · intro z k hk; rw [hm2 k hk]; exact z k (by omega)
      · intro z k hk y
        by_cases e : k = n
        · subst e; exact q y.symm
        · exact z k (by omega) ((hm2 k (by omega)).trans y)
  · rw [hm2 k hk]
    have hj := a2 k (by omega)
    rw [e (31 + 3 * od k) 0 (by omega), e (31 + 3 * od k) 1 (by omega), e (31 + 3 * od k) 2 (by omega), e (31 + 3 * od k) 3 (by omega), e (31 + 3 * od k) 4 (by omega), e (31 + 3 * od k) 5 (by omega), e (31 + 3 * od k) 6 (by omega), e (31 + 3 * od k) 7 (by omega), e 72 _ (by omega), e 73 _ (by omega), e 75 _ (by omega), e 76 _ (by omega), e 77 _ (by omega), e 78 _ (by omega), e 79 _ (by omega), e 80 _ (by omega)]
    exact b4 k (by omega)
  · rw [hm2 k hk]
    have hj := a2 k (by omega)
    rw [e (32 + 3 * od k) _ (by omega), e (33 + 3 * od k) _ (by omega), e 74 _ (by omega)]
    exact b5 k f (by omega) hf
theorem p_move {l : Launch} (hf : l.stackTraces = false) {M : pmM} (h : RLX M) (x y : Int32) : PR l kL_move kX4_move 15 4 3 [.ref 0, .int x, .int y, .ref 84] [.ref 64, .int x, .int y] M := by
  obtain ⟨od, mo, oc, rc, td, g, rg, mc, lo, hi, mb, h⟩ := h
  obtain ⟨⟨a1, a2, a3, a4, a5, a6, a7, a8, a9, a10, a11, a12, a13, a14⟩, ro, ⟨b1, b2, b3, b4, b5⟩⟩ := id h
  rcases find_rule M od rc x with ⟨p, hp, hx, hn⟩ | hn
  · by_cases hy : vp_in y rc
    · obtain ⟨q, hq, rfl⟩ := vp_in_of hy (by omega)
      have hch := ch_ul h.ti a5 hp hq
      have hle : (ulN (bkC M (ScF oc rg mc lo hi mb (-1) (nI 0)) mo rc) (bkC M (ScF oc rg mc lo hi mb (-1) (nI 0)) (shO mo p q) rc)) ≤ 32768 := ul_le _ _
      by_cases hz : (ulN (bkC M (ScF oc rg mc lo hi mb (-1) (nI 0)) mo rc) (bkC M (ScF oc rg mc lo hi mb (-1) (nI 0)) (shO mo p q) rc)) = 0
      · rw [hz] at hch
        have w := w_move_ok hf (s_move_ok hf a1 a2 a8 a5 hp hx hn hq hch)
        obtain ⟨N, n1, n2, n3⟩ := m_move_ok (od := shO od p q) hf (MS.rf (ouM (odM M (shO od p q)) (nI p).toInt64)) rfl (show MO (ouM (odM M (shO od p q)) (nI p).toInt64) oc rg mc lo hi mb from h.toM) a12 a5 b1 (show OBF (ouM (odM M (shO od p q)) (nI p).toInt64) mo rc oc from h.obf) hp ((b4 p hp).1.symm.trans hx) (fun q hq z => hn q hq ((b4 q (by omega)).1.trans z)) hq hz
        have h2 : REL (orM (ouM (odM M (shO od p q)) (nI p).toInt64) (shO mo p q) rc) (shO od p q) (shO mo p q) oc rc td g rg mc lo hi mb := h.sh hp hq rfl (fun k hk => orM_70 hk) (fun a k z => orM_no (by omega))
        exact ⟨0, _, nI p, N, by decide, w, fun _ => (by rw [n1.1]; rfl), n3, n2, _, _, _, _, _, _, _, _, _, _, _, h2.ms n1⟩
      · obtain ⟨N, n1, n2, n3⟩ := m_move_no3 hf (MS.rf M) a1 h.toM a12 a5 b1 h.obf hp ((b4 p hp).1.symm.trans hx) (fun q hq z => hn q hq ((b4 q (by omega)).1.trans z)) hq hz
        exact ⟨3, _, _, N, by decide, w_move_x3 hf (s_move_no3 hf a1 a2 a8 a5 hp hx hn hq (fun z => nI_ne0 (Nat.pos_of_ne_zero hz) (by omega) (hch.symm.trans z))), fun z => absurd z (by decide), n3, n2, _, _, _, _, _, _, _, _, _, _, _, h.ms n1⟩
    · obtain ⟨N, n1, n2, n3⟩ := m_move_no2 hf (MS.rf M) a1 h.toM a12 a5 b1 h.obf hp ((b4 p hp).1.symm.trans hx) (fun q hq z => hn q hq ((b4 q (by omega)).1.trans z)) hy
      exact ⟨2, _, _, N, by decide, w_move_x2 hf (s_move_no2 hf a1 a2 a8 a5 hp hx hn hy), fun z => absurd z (by decide), n3, n2, _, _, _, _, _, _, _, _, _, _, _, h.ms n1⟩
  · obtain ⟨N, n1, n2, n3⟩ := m_move_nr hf (MS.rf M) a1 h.toM a12 a5 b1 h.obf (fun q hq z => hn q hq ((b4 q (by omega)).1.trans z))
    exact ⟨1, _, _, N, by decide, w_move_x1 hf (s_move_nr hf a1 a2 a8 a5 hn), fun z => absurd z (by decide), n3, n2, _, _, _, _, _, _, _, _, _, _, _, h.ms n1⟩
theorem p_removeRule {l : Launch} (hf : l.stackTraces = false) {M : pmM} (h : RLX M) (x : Int32) : PR l kL_removeRule kX4_removeRule 15 3 1 [.ref 0, .int x, .ref 84] [.ref 64, .int x] M := by
  obtain ⟨od, mo, oc, rc, td, g, rg, mc, lo, hi, mb, h⟩ := h
  obtain ⟨⟨a1, a2, a3, a4, a5, a6, a7, a8, a9, a10, a11, a12, a13, a14⟩, ro, ⟨b1, b2, b3, b4, b5⟩⟩ := id h
  rcases find_rule M od rc x with ⟨p, hp, hx, hn⟩ | hn
  · have w := w_removeRule_ok hf (s_removeRule_ok hf a1 a2 a8 a5 hp hx hn)
    rw [cr_ul h.ti a5 hp] at w
    have eT : ∀ a k, a ≠ 0 ∨ k ≠ 3 → (ouM (rmM M od rc p) (nI (ulN (bkC M (ScF oc rg mc lo hi mb (-1) (nI 0)) mo rc) (bkC M (ScF oc rg mc lo hi mb (-1) (nI 0)) (rvO mo p) (rc - 1)))).toInt64).1 a k = M.1 a k := fun a k z => by
      show (if a = 0 ∧ k = 3 then _ else M.1 a k) = _
      rw [if_neg (by omega)]
    have m0 := fun (T : pmM) (hT : T = (ouM (rmM M od rc p) (nI (ulN (bkC M (ScF oc rg mc lo hi mb (-1) (nI 0)) mo rc) (bkC M (ScF oc rg mc lo hi mb (-1) (nI 0)) (rvO mo p) (rc - 1)))).toInt64)) => m_removeRule_ok (od := shO od p (rc - 1)) (mo := mo) (x := x) (p := p) hf (MS.rf T) (by rw [hT]; rfl) (h.toM.congr (by rw [hT]; exact eT _ _ (by omega)) (fun a k h1 h2 => by rw [hT]; exact eT _ _ (by omega))) (by rw [hT]; exact (eT _ _ (by omega)).trans a12) a5 (fun k hk => by rw [hT, eT 70 _ (by omega)]; exact b1 k hk) (fun k f hk hf => by rw [hT, eT 74 _ (by omega)]; exact h.obf k f hk hf) hp (by rw [hT, eT 72 _ (by omega)]; exact ((b4 p hp).1.symm.trans hx)) (fun q hq => by rw [hT, eT 72 _ (by omega)]; exact (fun q hq z => hn q hq ((b4 q (by omega)).1.trans z)) q hq)
    obtain ⟨N, n1, n2, n3⟩ := m0 _ rfl
    have hbk : ∀ mo' n, bkC (ouM (rmM M od rc p) (nI (ulN (bkC M (ScF oc rg mc lo hi mb (-1) (nI 0)) mo rc) (bkC M (ScF oc rg mc lo hi mb (-1) (nI 0)) (rvO mo p) (rc - 1)))).toInt64) (ScF oc rg mc lo hi mb (-1) (nI 0)) mo' n = bkC M (ScF oc rg mc lo hi mb (-1) (nI 0)) mo' n := fun mo' n => bkC_1 (fun a j h => eT a j (by omega)) (eT _ _ (by omega)) _ mo' n
    rw [hbk, hbk] at n3
    refine ⟨0, _, nI (ulN (bkC M (ScF oc rg mc lo hi mb (-1) (nI 0)) mo rc) (bkC M (ScF oc rg mc lo hi mb (-1) (nI 0)) (rvO mo p) (rc - 1))), N, by decide, w, fun _ => (by rw [n1.1]; rfl), n3, n2, shO od p (rc - 1), rvO mo p, oc, rc - 1, td, g, rg, mc, lo, hi, mb, REL.ms ?_ n1⟩
    generalize hTT : (ouM (rmM M od rc p) (nI (ulN (bkC M (ScF oc rg mc lo hi mb (-1) (nI 0)) mo rc) (bkC M (ScF oc rg mc lo hi mb (-1) (nI 0)) (rvO mo p) (rc - 1)))).toInt64) = T at eT n1
    have hTr : T.2.1 = mrC (shO od p (rc - 1)) := by rw [← hTT]; rfl
    have hT3 : T.1 0 3 = nI (rc - 1) := by rw [← hTT]; rfl
    clear hTT w m0 n3 hbk
    obtain ⟨n, rfl⟩ : ∃ n, rc = n + 1 := ⟨rc - 1, by omega⟩
    rw [show n + 1 - 1 = n from rfl] at hTr hT3 ⊢
    have h1 : REL ((fun a k => if a = 70 then nI (shO mo p n k) else M.1 a k, mrC (shO od p n), M.2.2) : pmM) (shO od p n) (shO mo p n) oc (n + 1) td g rg mc lo hi mb := h.sh hp (by omega) rfl (fun k hk => show (if 70 = 70 then nI (shO mo p n k) else M.1 70 k) = _ from if_pos rfl) (fun a k z => if_neg (by omega))
    have e2 : ∀ a k, a ≠ 0 ∨ k ≠ 3 → a ≠ 70 → a ≠ 71 → (a ≠ 64 ∨ k ≠ 8) → (myM T (mo p) (n + 1) p).1 a k = M.1 a k := fun a k z0 z1 z2 z3 => (myM_no z1 z2 z3).trans (eT a k z0)
    refine h1.drop (fun k hk => ?_) (show (myM T (mo p) (n + 1) p).2.1 = mrC (shO od p n) from hTr) ((myM_no (by decide) (by decide) (by decide)).trans hT3) ((odL_no (by decide)).trans (show nI (n + 1 - 1) = nI n from rfl)) (fun k hk => ?_) (fun s hs => ?_) (fun a k z => ?_)
    · unfold rvO shO
      rw [if_neg (show ¬ k = n by omega)]
      by_cases c : p ≤ k
      · rw [if_pos c, if_pos (by omega)]
      · rw [if_neg c, if_neg (by omega), if_neg (by omega)]
    · show _ = if 70 = 70 then nI (shO mo p n k) else M.1 70 k
      rw [if_pos rfl]
      unfold myM shO
      rw [odL_70, mxM_no (by decide) (Or.inl (by decide)), mxM_no (by decide) (Or.inl (by decide)), eT 70 _ (by omega), eT 70 _ (by omega), if_neg (show ¬ k = n by omega)]
      by_cases c : p ≤ k
      · rw [if_pos (by omega), if_pos (by omega)]; exact (b1 _ (by omega)).1
      · rw [if_neg (by omega), if_neg (by omega), if_neg (by omega)]; exact (b1 _ (by omega)).1
    · show _ = if s = shO mo p n n then 0 else if 71 = 70 then nI (shO mo p n s) else M.1 71 s
      rw [show shO mo p n n = mo p from if_pos rfl, if_neg (show ¬ 71 = 70 by decide)]
      unfold myM mxM
      rw [odL_no (by decide)]
      show (if 71 = 64 ∧ s = 8 then nI (n + 1 - 1) else if 71 = 71 ∧ s = mo p then nI 0 else T.1 71 s) = _
      rw [if_neg (by omega), eT 71 _ (by omega)]
      by_cases c : s = mo p
      · rw [if_pos ⟨rfl, c⟩, if_pos c]; rfl
      · rw [if_neg (fun z => c z.2), if_neg c]
    · show _ = if a = 70 then nI (shO mo p n k) else M.1 a k
      rw [if_neg (by omega), e2 a k (by omega) (by omega) (by omega) (by omega)]
  · obtain ⟨N, n1, n2, n3⟩ := m_removeRule_nr hf (MS.rf M) a1 h.toM a12 a5 b1 h.obf (fun q hq z => hn q hq ((b4 q (by omega)).1.trans z))
    exact ⟨1, _, _, N, by decide, w_removeRule_x1 hf (s_removeRule_nr hf a1 a2 a8 a5 hn), fun z => absurd z (by decide), n3, n2, _, _, _, _, _, _, _, _, _, _, _, h.ms n1⟩
