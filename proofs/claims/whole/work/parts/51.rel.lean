/-! ===== what ties FilterRules to the model between the calls ===== -/
/-- the wires and the plain numbers -/
def RA (M : pmM) (od : Nat → Nat) (oc rc td g : Nat) : Prop :=
  M.2.1 = mrC od ∧ (∀ p, p < 8 → od p < 8) ∧ (∀ p q, p < 8 → q < 8 → od p = od q → p = q) ∧ oc ≤ 8 ∧ rc ≤ 8 ∧ td ≤ 999 ∧ M.1 0 1 = nI oc ∧ M.1 0 3 = nI rc ∧ M.1 0 4 = nI g ∧ M.1 0 5 = nI td ∧ M.1 64 2 = nI oc ∧ M.1 64 8 = nI rc ∧ M.1 64 9 = nI g ∧ M.1 64 1 = nI td
/-- the objects -/
def RO (M : pmM) (oc : Nat) (rg mc : Nat → Nat) (lo hi mb : Nat → Nat → Nat) : Prop :=
  (∀ o, o < 8 → M.1 (15 + 2 * o) 1 = nI (rg o) ∧ rg o ≤ 3 ∧ M.1 65 o = nI (rg o) ∧ M.1 68 o = nI (mc o) ∧ mc o ≤ 2 ∧ (oc ≤ o → rg o = 0 ∧ mc o = 0)) ∧
  (∀ o k, o < oc → k < rg o → M.1 66 (3 * o + k) = nI (lo o k) ∧ M.1 67 (3 * o + k) = nI (hi o k) ∧ lo o k ≤ hi o k ∧ hi o k < 32 ∧ M.1 (16 + 2 * o) k = rgO (lo o k) (hi o k)) ∧
  (∀ o k, o < oc → k < mc o → M.1 69 (2 * o + k) = nI (mb o k) ∧ mb o k < oc) ∧ (∀ o, o < oc → mc o = 2 → mb o 0 ≠ mb o 1) ∧ MB M 8 mc mb
/-- the rules, by their positions -/
def RB (M : pmM) (od mo : Nat → Nat) (oc rc : Nat) (S : Nat → Int32) : Prop :=
  (∀ p, p < rc → M.1 70 p = nI (mo p) ∧ mo p < 8) ∧ (∀ p q, p < rc → q < rc → mo p = mo q → p = q) ∧ (∀ s, s < 8 → (M.1 71 s = 0 ↔ ∀ p, p < rc → mo p ≠ s)) ∧
  (∀ p, p < rc → M.1 (31 + 3 * od p) 0 = M.1 72 (mo p) ∧ M.1 (31 + 3 * od p) 1 = (if M.1 73 (mo p) = 0 then nI 100 else nI 97) ∧ M.1 (31 + 3 * od p) 2 = M.1 75 (mo p) ∧ M.1 (31 + 3 * od p) 3 = M.1 76 (mo p) ∧ M.1 (31 + 3 * od p) 5 = M.1 77 (mo p) ∧ M.1 (31 + 3 * od p) 6 = M.1 79 (mo p) ∧ M.1 (31 + 3 * od p) 7 = M.1 80 (mo p) ∧ M.1 78 (mo p) = (if M.1 (31 + 3 * od p) 7 = -1 then M.1 (31 + 3 * od p) 4 else M.1 (31 + 3 * od p) 7)) ∧
  ∀ p f, p < rc → f < 3 → M.1 (32 + 3 * od p) f = M.1 74 (3 * mo p + f) ∧ obOk oc (M.1 74 (3 * mo p + f)) ∧ M.1 (33 + 3 * od p) f = stC S (M.1 74 (3 * mo p + f))
def REL (M : pmM) (od mo : Nat → Nat) (oc rc td g : Nat) (rg mc : Nat → Nat) (lo hi mb : Nat → Nat → Nat) : Prop :=
  RA M od oc rc td g ∧ RO M oc rg mc lo hi mb ∧ RB M od mo oc rc (ScF oc rg mc lo hi mb (-1) (nI 0))
section REL
variable {M : pmM} {od mo : Nat → Nat} {oc rc td g : Nat} {rg mc : Nat → Nat} {lo hi mb : Nat → Nat → Nat}
theorem RO.toM (h : RO M oc rg mc lo hi mb) (h8 : oc ≤ 8) (hc : M.1 64 2 = nI oc) : MO M oc rg mc lo hi mb := by
  obtain ⟨r1, r2, r3, r4, r5⟩ := h
  exact ⟨h8, hc, fun o ho => ⟨(r1 o (by omega)).2.2.1, (r1 o (by omega)).2.1⟩, fun o k ho hk => ⟨(r2 o k ho hk).1, (r2 o k ho hk).2.1, (r2 o k ho hk).2.2.1, (r2 o k ho hk).2.2.2.1⟩, fun o ho => ⟨(r1 o (by omega)).2.2.2.1, (r1 o (by omega)).2.2.2.2.1⟩, r3⟩
theorem RO.ot (h : RO M oc rg mc lo hi mb) (h8 : oc ≤ 8) : OT M oc rg mc lo hi mb := by
  obtain ⟨r1, r2, r3, r4, r5⟩ := h
  exact ⟨h8, fun o k ho hk => (r3 o k ho hk).2, fun o ho i hi => r5 o (by omega) i hi, fun o k ho hk => (r2 o k ho hk).2.2.2.2⟩
theorem RO.hrg (h : RO M oc rg mc lo hi mb) : ∀ o, o < 8 → M.1 (15 + 2 * o) 1 = nI (rg o) ∧ rg o ≤ 3 := fun o ho => ⟨(h.1 o ho).1, (h.1 o ho).2.1⟩
theorem REL.toM (h : REL M od mo oc rc td g rg mc lo hi mb) : MO M oc rg mc lo hi mb := h.2.1.toM h.1.2.2.2.1 h.1.2.2.2.2.2.2.2.2.2.2.1
theorem REL.ot (h : REL M od mo oc rc td g rg mc lo hi mb) : OT M oc rg mc lo hi mb := h.2.1.ot h.1.2.2.2.1
theorem REL.obf (h : REL M od mo oc rc td g rg mc lo hi mb) : OBF M mo rc oc := fun p f hp hf => (h.2.2.2.2.2.2 p f hp hf).2.1
theorem REL.hfo (h : REL M od mo oc rc td g rg mc lo hi mb) : ∀ p f, p < rc → f < 3 → fOk (M.1 (32 + 3 * od p) f) := fun p f hp hf => by
  rw [(h.2.2.2.2.2.2 p f hp hf).1]
  exact (h.obf p f hp hf).fOk h.1.2.2.2.1
theorem REL.hac (h : REL M od mo oc rc td g rg mc lo hi mb) : ∀ p, p < rc → M.1 (31 + 3 * od p) 1 = nI 97 ∨ M.1 (31 + 3 * od p) 1 = nI 100 := fun p hp => by
  rw [(h.2.2.2.2.2.1 p hp).2.1]
  split
  · exact Or.inr rfl
  · exact Or.inl rfl
theorem REL.mat (h : REL M od mo oc rc td g rg mc lo hi mb) : ∀ p f, p < rc → f < 3 → M.1 (33 + 3 * od p) f = stC (ScF oc rg mc lo hi mb (-1) (nI 0)) (M.1 74 (3 * mo p + f)) := fun p f hp hf => (h.2.2.2.2.2.2 p f hp hf).2.2
theorem REL.on (h : REL M od mo oc rc td g rg mc lo hi mb) : ∀ p, p < rc → inF M od p = onM M (mo p) := fun p hp => by
  unfold inF onM
  rw [(h.2.2.2.2.2.1 p hp).2.2.2.1, h.1.2.2.2.2.2.2.2.2.2.1, h.1.2.2.2.2.2.2.2.2.2.2.2.2.2]
theorem REL.ti (h : REL M od mo oc rc td g rg mc lo hi mb) : TI M (ScF oc rg mc lo hi mb (-1) (nI 0)) od mo rc := by
  refine ⟨fun p hp a b c _ _ _ => ?_, h.on, fun p hp => ?_, h.hac, fun p hp => (h.2.2.2.2.2.1 p hp).2.2.2.2.1⟩
  · unfold msP mkP maF
    rw [h.on p hp, h.mat p 0 hp (by decide), h.mat p 1 hp (by decide), h.mat p 2 hp (by decide)]
  · unfold acP
    rw [(h.2.2.2.2.2.1 p hp).2.1]
    by_cases q : M.1 73 (mo p) = 0
    · rw [if_pos q, decide_eq_true q]; decide
    · rw [if_neg q, decide_eq_false q]; decide
theorem REL.th (h : REL M od mo oc rc td g rg mc lo hi mb) {o : Nat} (ho : o < oc) (fv : Int32) : ∀ p, p < rc → ∀ u v w, u < 32 → v < 32 → w < 32 → thP M od (nI o) fv p u v w = mkP M (ScF oc rg mc lo hi mb (nI o) fv) mo p u v w := fun p hp u v w _ _ _ => by
  have e : ∀ f v, f < 3 → hasb (thF M od f (nI o) fv p) v = hasb (stC (ScF oc rg mc lo hi mb (nI o) fv) (M.1 74 (3 * mo p + f))) v := fun f v hf => by
    have hb := (h.2.2.2.2.2.2 p f hp hf).1
    rw [th_st h.ot ho (by rw [hb]; exact h.obf p f hp hf) (by rw [hb]; exact h.mat p f hp hf), hb]
  unfold thP mkP
  rw [h.on p hp, e 0 u (by decide), e 1 v (by decide), e 2 w (by decide)]
end REL
