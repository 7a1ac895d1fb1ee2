/-! ===== p37: what holds between two calls ===== -/
def IVA (M : pmM) (od : Nat → Nat) (oc rc td g : Nat) : Prop :=
  M.2.1 = mrC od ∧ (∀ p, p < 8 → od p < 8) ∧ (∀ p q, p < 8 → q < 8 → od p = od q → p = q) ∧ oc ≤ 8 ∧ rc ≤ 8 ∧ td ≤ 999 ∧ M.1 0 1 = nI oc ∧ M.1 0 3 = nI rc ∧ M.1 0 4 = nI g ∧ M.1 0 5 = nI td
/-- the objects -/
def IVO (M : pmM) (oc : Nat) (rg : Nat → Nat) : Prop :=
  ∀ o, o < 8 → (M.1 (15 + 2 * o) 1 = nI (rg o) ∧ rg o ≤ 3) ∧ (∀ i, i < 32 → hasb (M.1 (15 + 2 * o) 2) i = true → i < oc) ∧ cntN (hasb (M.1 (15 + 2 * o) 2)) 32 ≤ 2
/-- a rule, in the row j -/
def IVr (M : pmM) (j oc g H : Nat) : Prop :=
  (∃ n, n < g ∧ M.1 (31 + 3 * j) 0 = nI n) ∧ (M.1 (31 + 3 * j) 1 = nI 97 ∨ M.1 (31 + 3 * j) 1 = nI 100) ∧ (M.1 (31 + 3 * j) 3 = -1 ∨ ∃ d, d ≤ 999 ∧ M.1 (31 + 3 * j) 3 = nI d) ∧ (∃ h b, b ≤ h ∧ h ≤ H ∧ M.1 (31 + 3 * j) 5 = nI h ∧ M.1 (31 + 3 * j) 6 = nI b) ∧ ∀ f, f < 3 → obOk oc (M.1 (32 + 3 * j) f)
def IVR (M : pmM) (od : Nat → Nat) (oc rc g H : Nat) : Prop := (∀ p, p < rc → IVr M (od p) oc g H) ∧ ∀ p q, p < rc → q < rc → M.1 (31 + 3 * od p) 0 = M.1 (31 + 3 * od q) 0 → p = q
def IVM (M : pmM) (od rg : Nat → Nat) (rc : Nat) : Prop := ∀ p f, p < rc → f < 3 → M.1 (33 + 3 * od p) f = mtv M rg (M.1 (32 + 3 * od p) f)
def IV (M : pmM) (od : Nat → Nat) (oc rc td g : Nat) (rg : Nat → Nat) (H : Nat) : Prop := IVA M od oc rc td g ∧ IVO M oc rg ∧ IVR M od oc rc g H ∧ IVM M od rg rc
theorem obOk.mono {a b : Nat} (h : a ≤ b) {x : Int32} (hx : obOk a x) : obOk b x := hx.elim Or.inl (fun ⟨o, h1, h2⟩ => Or.inr ⟨o, by omega, h2⟩)
theorem obOk.fOk {oc : Nat} {x : Int32} (hx : obOk oc x) (h8 : oc ≤ 8) : fOk x := hx.elim Or.inl (fun ⟨o, h1, h2⟩ => Or.inr ⟨o, by omega, h2⟩)
section IVS
variable {M N : pmM} {od od' : Nat → Nat} {oc oc' rc rc' td td' g g' : Nat} {rg rg' : Nat → Nat} {H H' : Nat}
theorem IV.mr (h : IV M od oc rc td g rg H) : M.2.1 = mrC od := h.1.1
theorem IV.od8 (h : IV M od oc rc td g rg H) : ∀ p, p < 8 → od p < 8 := h.1.2.1
theorem IV.odi (h : IV M od oc rc td g rg H) : ∀ p q, p < 8 → q < 8 → od p = od q → p = q := h.1.2.2.1
theorem IV.oc8 (h : IV M od oc rc td g rg H) : oc ≤ 8 := h.1.2.2.2.1
theorem IV.rc8 (h : IV M od oc rc td g rg H) : rc ≤ 8 := h.1.2.2.2.2.1
theorem IV.td9 (h : IV M od oc rc td g rg H) : td ≤ 999 := h.1.2.2.2.2.2.1
theorem IV.hoc (h : IV M od oc rc td g rg H) : M.1 0 1 = nI oc := h.1.2.2.2.2.2.2.1
theorem IV.hrc (h : IV M od oc rc td g rg H) : M.1 0 3 = nI rc := h.1.2.2.2.2.2.2.2.1
theorem IV.hg (h : IV M od oc rc td g rg H) : M.1 0 4 = nI g := h.1.2.2.2.2.2.2.2.2.1
theorem IV.htd (h : IV M od oc rc td g rg H) : M.1 0 5 = nI td := h.1.2.2.2.2.2.2.2.2.2
theorem IV.hrg (h : IV M od oc rc td g rg H) : ∀ o, o < 8 → M.1 (15 + 2 * o) 1 = nI (rg o) ∧ rg o ≤ 3 := fun o ho => (h.2.1 o ho).1
theorem IV.rule (h : IV M od oc rc td g rg H) : ∀ p, p < rc → IVr M (od p) oc g H := h.2.2.1.1
theorem IV.num (h : IV M od oc rc td g rg H) : ∀ p q, p < rc → q < rc → M.1 (31 + 3 * od p) 0 = M.1 (31 + 3 * od q) 0 → p = q := h.2.2.1.2
theorem IV.hac (h : IV M od oc rc td g rg H) : hcA M od rc := fun p hp => (h.rule p hp).2.1
theorem IV.hfo (h : IV M od oc rc td g rg H) : ∀ p f, p < rc → f < 3 → fOk (M.1 (32 + 3 * od p) f) := fun p f hp hf => ((h.rule p hp).2.2.2.2 f hf).fOk h.oc8
theorem IV.hn (h : IV M od oc rc td g rg H) {p : Nat} (hp : p < rc) : ∀ q, q < p → M.1 (31 + 3 * od q) 0 ≠ M.1 (31 + 3 * od p) 0 := fun q hq e => by
  have := h.num q p (by omega) hp e
  omega
theorem find_rule (M : pmM) (od : Nat → Nat) (x : Int32) : ∀ rc, (∃ p, p < rc ∧ M.1 (31 + 3 * od p) 0 = x ∧ ∀ q, q < p → M.1 (31 + 3 * od q) 0 ≠ x) ∨ ∀ q, q < rc → M.1 (31 + 3 * od q) 0 ≠ x
  | 0 => Or.inr (fun q hq => absurd hq (Nat.not_lt_zero q))
  | rc + 1 => by
    rcases find_rule M od x rc with ⟨p, h1, h2⟩ | h
    · exact Or.inl ⟨p, by omega, h2⟩
    · by_cases e : M.1 (31 + 3 * od rc) 0 = x
      · exact Or.inl ⟨rc, by omega, e, h⟩
      · refine Or.inr (fun q hq => ?_)
        by_cases e2 : q = rc
        · rw [e2]; exact e
        · exact h q (by omega)
/-! the values of an object rest on the objects alone -/
theorem voF_cg (h1 : ∀ o, o < 8 → N.1 (15 + 2 * o) 2 = M.1 (15 + 2 * o) 2) (h2 : ∀ o k, o < 8 → N.1 (16 + 2 * o) k = M.1 (16 + 2 * o) k) : ∀ (f o : Nat), o < 8 → voF N rg f o = voF M rg f o
  | 0, _, _ => rfl
  | f + 1, o, ho => by
    have e1 : N.1 (16 + 2 * o) = M.1 (16 + 2 * o) := funext fun k => h2 o k ho
    have e2 : ∀ n, n ≤ 8 → orIf (hasb (N.1 (15 + 2 * o) 2)) (voF N rg f) (orN (N.1 (16 + 2 * o)) (rg o)) n = orIf (hasb (M.1 (15 + 2 * o) 2)) (voF M rg f) (orN (M.1 (16 + 2 * o)) (rg o)) n := by
      intro n
      induction n with
      | zero => intro _; show orN _ _ = orN _ _; rw [e1]
      | succ n ih =>
        intro hn
        rw [orIf, orIf, ih (by omega), h1 _ ho, voF_cg h1 h2 f n (by omega)]
    exact e2 8 (Nat.le_refl 8)
theorem voF_c15 (h : ∀ a k, 15 ≤ a → a < 31 → N.1 a k = M.1 a k) (f o : Nat) (ho : o < 8) : voF N rg f o = voF M rg f o := voF_cg (fun o ho => h _ _ (by omega) (by omega)) (fun o k ho => h _ _ (by omega) (by omega)) f o ho
theorem mtv_c15 (h : ∀ a k, 15 ≤ a → a < 31 → N.1 a k = M.1 a k) {x : Int32} (hx : fOk x) : mtv N rg x = mtv M rg x := by
  unfold mtv
  rcases hx with rfl | ⟨o, ho, rfl⟩
  · rw [if_pos rfl, if_pos rfl]
  · rw [if_neg (nI_m1 ho), if_neg (nI_m1 ho), ixN_nI ho, voF_c15 h 8 o ho]
theorem IVr.cg {j : Nat} (h1 : ∀ k, N.1 (31 + 3 * j) k = M.1 (31 + 3 * j) k) (h2 : ∀ k, N.1 (32 + 3 * j) k = M.1 (32 + 3 * j) k) (z1 : oc ≤ oc') (z2 : g ≤ g') (z3 : H ≤ H') (h : IVr M j oc g H) : IVr N j oc' g' H' := by
  obtain ⟨⟨n, n1, n2⟩, a, d, ⟨x, y, y1, y2, y3, y4⟩, f⟩ := h
  refine ⟨⟨n, by omega, by rw [h1]; exact n2⟩, by rw [h1]; exact a, by rw [h1]; exact d, ⟨x, y, y1, by omega, by rw [h1]; exact y3, by rw [h1]; exact y4⟩, fun q hq => by rw [h2]; exact (f q hq).mono z1⟩
theorem IVO.cg (h : ∀ a k, 15 ≤ a → a < 31 → N.1 a k = M.1 a k) (z : oc ≤ oc') (hO : IVO M oc rg) : IVO N oc' rg := fun o ho => by
  obtain ⟨⟨a, b⟩, c, d⟩ := hO o ho
  rw [h _ _ (show 15 ≤ 15 + 2 * o by omega) (by omega), h _ _ (show 15 ≤ 15 + 2 * o by omega) (by omega)]
  exact ⟨⟨a, b⟩, fun i hi hb => Nat.lt_of_lt_of_le (c i hi hb) z, d⟩
/-- nothing has changed but the plain numbers, and what no one reads -/
theorem IV.cg (h : IV M od oc rc td g rg H) (h2 : N.2.1 = M.2.1) (hO : ∀ a k, 15 ≤ a → a < 55 → N.1 a k = M.1 a k) (z1 : oc ≤ oc') (z8 : oc' ≤ 8) (z2 : td' ≤ 999) (e1 : N.1 0 1 = nI oc') (e2 : N.1 0 3 = nI rc) (e3 : N.1 0 4 = nI g) (e4 : N.1 0 5 = nI td') : IV N od oc' rc td' g rg H := by
  have hr := h.od8
  have hrc := h.rc8
  refine ⟨⟨h2.trans h.mr, hr, h.odi, z8, hrc, z2, e1, e2, e3, e4⟩, IVO.cg (fun a k q1 q2 => hO a k q1 (by omega)) z1 h.2.1, ⟨fun p hp => ?_, fun p q hp hq e => ?_⟩, fun p f hp hf => ?_⟩
  · have := hr p (by omega)
    exact (h.rule p hp).cg (fun k => hO _ _ (by omega) (by omega)) (fun k => hO _ _ (by omega) (by omega)) z1 (Nat.le_refl _) (Nat.le_refl _)
  · have := hr p (by omega)
    have := hr q (by omega)
    rw [hO _ _ (by omega) (by omega), hO _ _ (by omega) (by omega)] at e
    exact h.num p q hp hq e
  · have := hr p (by omega)
    rw [hO _ _ (by omega) (by omega), hO _ _ (show 15 ≤ 32 + 3 * od p by omega) (by omega), mtv_c15 (fun a k q1 q2 => hO a k q1 (by omega)) (h.hfo p f hp hf)]
    exact h.2.2.2 p f hp hf
theorem IV.sx (h : IV M od oc rc td g rg H) (hs : SX M N) : IV N od oc rc td g rg H :=
  h.cg (congrArg (fun z => z.1) hs.1) (fun a k h1 h2 => hs.2 a k (by unfold scr; omega)) (Nat.le_refl _) h.oc8 h.td9 ((hs.2 _ _ (by unfold scr; omega)).trans h.hoc) ((hs.2 _ _ (by unfold scr; omega)).trans h.hrc) ((hs.2 _ _ (by unfold scr; omega)).trans h.hg) ((hs.2 _ _ (by unfold scr; omega)).trans h.htd)
theorem IV.hup (h : IV M od oc rc td g rg H) (z : H ≤ H') : IV M od oc rc td g rg H' := ⟨h.1, h.2.1, ⟨fun p hp => (h.rule p hp).cg (fun _ => rfl) (fun _ => rfl) (Nat.le_refl _) (Nat.le_refl _) z, h.num⟩, h.2.2.2⟩
theorem IV.addObject (h : IV M od oc rc td g rg H) (hlt : oc < 8) : IV (aoM M oc) od (oc + 1) rc td g rg H := by
  have e : ∀ a k, (aoM M oc).1 a k = if a = 0 ∧ k = 1 then nI (oc + 1) else M.1 a k := fun a k => rfl
  exact h.cg rfl (fun a k h1 h2 => by rw [e, if_neg (by omega)]) (by omega) (by omega) h.td9 (by rw [e, if_pos ⟨rfl, rfl⟩]) (by rw [e, if_neg (by omega)]; exact h.hrc) (by rw [e, if_neg (by omega)]; exact h.hg) (by rw [e, if_neg (by omega)]; exact h.htd)
theorem IV.pass (h : IV M od oc rc td g rg H) {d : Nat} (hd : d ≤ 999) : IV (paM M (nI d)) od oc rc d g rg H := by
  have e : ∀ a k, (paM M (nI d)).1 a k = if a = 0 ∧ k = 5 then nI d else M.1 a k := fun a k => rfl
  exact h.cg rfl (fun a k h1 h2 => by rw [e, if_neg (by omega)]) (Nat.le_refl _) h.oc8 hd (by rw [e, if_neg (by omega)]; exact h.hoc) (by rw [e, if_neg (by omega)]; exact h.hrc) (by rw [e, if_neg (by omega)]; exact h.hg) (by rw [e, if_pos ⟨rfl, rfl⟩])
/-! the matches, set anew -/
theorem um_at (hN : ∀ p, p < 8 → od p < 8) {p f : Nat} (hp : p < rc) (hf : f < 3) : (umM N od rg rc).1 (33 + 3 * od p) f = mtv N rg (N.1 (32 + 3 * od p) f) := by
  show (if (anyB (fun q => 33 + 3 * od p == 33 + 3 * od q) rc && decide (f < 3)) = true then mtv N rg (N.1 (33 + 3 * od p - 1) f) else N.1 (33 + 3 * od p) f) = _
  rw [if_pos (by rw [Bool.and_eq_true]; exact ⟨(anyB_iff _ rc).mpr ⟨p, hp, beq_self_eq_true _⟩, decide_eq_true hf⟩)]
  rw [show 33 + 3 * od p - 1 = 32 + 3 * od p by omega]
theorem IV.um (hA : IVA N od oc rc td g) (hO : IVO N oc rg) (hR : IVR N od oc rc g H) : IV (umM N od rg rc) od oc rc td g rg H := by
  obtain ⟨a1, a2, a3, a4, a5, a6, a7, a8, a9, a10⟩ := hA
  have n0 : ∀ a k, a % 3 ≠ 0 ∨ a < 33 → (umM N od rg rc).1 a k = N.1 a k := fun a k h => umM_no N h
  refine ⟨⟨a1, a2, a3, a4, a5, a6, by rw [n0 _ _ (by omega)]; exact a7, by rw [n0 _ _ (by omega)]; exact a8, by rw [n0 _ _ (by omega)]; exact a9, by rw [n0 _ _ (by omega)]; exact a10⟩, IVO.cg (fun a k _ _ => n0 _ _ (by omega)) (Nat.le_refl _) hO, ⟨fun p hp => (hR.1 p hp).cg (fun k => n0 _ _ (by omega)) (fun k => n0 _ _ (by omega)) (Nat.le_refl _) (Nat.le_refl _) (Nat.le_refl _), fun p q hp hq e => ?_⟩, fun p f hp hf => ?_⟩
  · rw [n0 _ _ (by omega), n0 _ _ (by omega)] at e
    exact hR.2 p q hp hq e
  · rw [um_at a2 hp hf, n0 (32 + 3 * od p) f (by omega), mtv_c15 (fun a k _ _ => n0 _ _ (by omega)) (((hR.1 p hp).2.2.2.2 f hf).fOk a4)]
/-- an object has changed -/
theorem IV.ob (h : IV M od oc rc td g rg H) (h2 : N.2.1 = M.2.1) (h0 : ∀ k, N.1 0 k = M.1 0 k) (hR : ∀ a k, 31 ≤ a → N.1 a k = M.1 a k) (hO : IVO N oc rg') : IV (umM N od rg' rc) od oc rc td g rg' H :=
  IV.um ⟨h2.trans h.mr, h.od8, h.odi, h.oc8, h.rc8, h.td9, (h0 _).trans h.hoc, (h0 _).trans h.hrc, (h0 _).trans h.hg, (h0 _).trans h.htd⟩ hO ⟨fun p hp => (h.rule p hp).cg (fun k => hR _ _ (by omega)) (fun k => hR _ _ (by omega)) (Nat.le_refl _) (Nat.le_refl _) (Nat.le_refl _), fun p q hp hq e => by
    rw [hR _ _ (by omega), hR _ _ (by omega)] at e
    exact h.num p q hp hq e⟩
theorem arM_at (M : pmM) (o r a b x k : Nat) : (arM M o r a b).1 x k = if x = 15 + 2 * o ∧ k = 1 then nI (r + 1) else if x = 16 + 2 * o ∧ k = r then rgO a b else M.1 x k := rfl
theorem IV.addRange (h : IV M od oc rc td g rg H) {o a b : Nat} (ho : o < oc) (hlt : rg o < 3) : IV (umM (arM M o (rg o) a b) od (rgS rg o (rg o + 1)) rc) od oc rc td g (rgS rg o (rg o + 1)) H := by
  have h8 := h.oc8
  refine h.ob rfl (fun k => by rw [arM_at, if_neg (by omega), if_neg (by omega)]) (fun x k hx => by rw [arM_at, if_neg (by omega), if_neg (by omega)]) (fun q hq => ?_)
  obtain ⟨⟨z1, z2⟩, z3, z4⟩ := h.2.1 q hq
  rw [arM_at, arM_at, if_neg (show ¬ (15 + 2 * q = 15 + 2 * o ∧ 2 = 1) by omega), if_neg (show ¬ (15 + 2 * q = 16 + 2 * o ∧ 2 = rg o) by omega)]
  refine ⟨?_, z3, z4⟩
  unfold rgS
  by_cases e : q = o
  · subst e
    rw [if_pos ⟨rfl, rfl⟩, if_pos rfl]
    exact ⟨rfl, by omega⟩
  · rw [if_neg (by omega), if_neg (by omega), if_neg e]
    exact ⟨z1, z2⟩
theorem IV.removeRange (h : IV M od oc rc td g rg H) {o : Nat} (ho : o < oc) : IV (umM (rrM M o (rg o)) od (rgS rg o (rg o - 1)) rc) od oc rc td g (rgS rg o (rg o - 1)) H := by
  have h8 := h.oc8
  have e0 : ∀ x k, (rrM M o (rg o)).1 x k = if x = 15 + 2 * o ∧ k = 1 then nI (rg o - 1) else M.1 x k := fun x k => rfl
  refine h.ob rfl (fun k => by rw [e0, if_neg (by omega)]) (fun x k hx => by rw [e0, if_neg (by omega)]) (fun q hq => ?_)
  obtain ⟨⟨z1, z2⟩, z3, z4⟩ := h.2.1 q hq
  rw [e0, e0, if_neg (show ¬ (15 + 2 * q = 15 + 2 * o ∧ 2 = 1) by omega)]
  refine ⟨?_, z3, z4⟩
  unfold rgS
  by_cases e : q = o
  · subst e
    rw [if_pos ⟨rfl, rfl⟩, if_pos rfl]
    exact ⟨rfl, by omega⟩
  · rw [if_neg (by omega), if_neg e]
    exact ⟨z1, z2⟩
theorem IV.member (h : IV M od oc rc td g rg H) {o : Nat} {x : Int32} (ho : o < oc) (hx : ∀ i, i < 32 → hasb x i = true → i < oc) (hc : cntN (hasb x) 32 ≤ 2) : IV (umM (amM M o x) od rg rc) od oc rc td g rg H := by
  have h8 := h.oc8
  have e0 : ∀ a k, (amM M o x).1 a k = if a = 15 + 2 * o ∧ k = 2 then x else M.1 a k := fun x k => rfl
  refine h.ob rfl (fun k => by rw [e0, if_neg (by omega)]) (fun x k hx => by rw [e0, if_neg (by omega)]) (fun q hq => ?_)
  obtain ⟨⟨z1, z2⟩, z3, z4⟩ := h.2.1 q hq
  rw [e0, e0, if_neg (show ¬ (15 + 2 * q = 15 + 2 * o ∧ 1 = 2) by omega)]
  refine ⟨⟨z1, z2⟩, ?_⟩
  by_cases e : q = o
  · subst e
    rw [if_pos ⟨rfl, rfl⟩]
    exact ⟨hx, hc⟩
  · rw [if_neg (by omega)]
    exact ⟨z3, z4⟩
theorem bit_one {m i : Nat} (hm : m < 8) (hi : i < 32) : hasb (nI 1 <<< (nI m &&& 31)) i = decide (i = m) := (show ∀ m, m < 8 → ∀ i, i < 32 → hasb (nI 1 <<< (nI m &&& 31)) i = decide (i = m) by decide +kernel) m hm i hi
theorem cnt_or1 (b : Nat → Bool) (m : Nat) : ∀ n, cntN (fun i => b i || decide (i = m)) n ≤ cntN b n + if m < n then 1 else 0
  | 0 => Nat.zero_le _
  | n + 1 => by
    have ih := cnt_or1 b m n
    rw [cntN, cntN]
    by_cases e : n = m
    · subst e
      rw [if_neg (Nat.lt_irrefl _)] at ih
      rw [if_pos (Nat.lt_succ_self _)]
      split <;> split <;> omega
    · rw [show (b n || decide (n = m)) = b n by rw [decide_eq_false e, Bool.or_false]]
      by_cases q : m < n
      · rw [if_pos q] at ih
        rw [if_pos (show m < n + 1 by omega)]
        split <;> omega
      · rw [if_neg q] at ih
        rw [if_neg (show ¬ m < n + 1 by omega)]
        split <;> omega
theorem IV.addMember (h : IV M od oc rc td g rg H) {o m : Nat} (ho : o < oc) (hm : m < oc) (hc : cntN (hasb (M.1 (15 + 2 * o) 2)) 32 < 2) : IV (umM (amM M o (M.1 (15 + 2 * o) 2 ||| (nI 1 <<< (nI m &&& 31)))) od rg rc) od oc rc td g rg H := by
  have h8 := h.oc8
  obtain ⟨-, z3, z4⟩ := h.2.1 o (by omega)
  refine h.member ho (fun i hi hb => ?_) ?_
  · rw [hasb_or, bit_one (by omega) hi, Bool.or_eq_true] at hb
    rcases hb with hb | hb
    · exact z3 i hi hb
    · rw [of_decide_eq_true hb]; exact hm
  · rw [cntN_congr (b' := fun i => hasb (M.1 (15 + 2 * o) 2) i || decide (i = m)) 32 (fun i hi => by rw [hasb_or, bit_one (by omega) hi])]
    have := cnt_or1 (hasb (M.1 (15 + 2 * o) 2)) m 32
    rw [if_pos (by omega)] at this
    omega
theorem IV.removeMember (h : IV M od oc rc td g rg H) {o m : Nat} (ho : o < oc) : IV (umM (amM M o (M.1 (15 + 2 * o) 2 &&& ((nI 1 <<< (nI m &&& 31)) ^^^ (-1)))) od rg rc) od oc rc td g rg H := by
  have h8 := h.oc8
  obtain ⟨-, z3, z4⟩ := h.2.1 o (by omega)
  have hs : ∀ i, i < 32 → hasb (M.1 (15 + 2 * o) 2 &&& ((nI 1 <<< (nI m &&& 31)) ^^^ (-1))) i = true → hasb (M.1 (15 + 2 * o) 2) i = true := fun i hi hb => by
    rw [hasb_and, Bool.and_eq_true] at hb
    exact hb.1
  exact h.member ho (fun i hi hb => z3 i hi (hs i hi hb)) (Nat.le_trans (cnt_le 32 hs) z4)
/-! the order -/
theorem sg_inj {fr to p q : Nat} (h : sgO fr to p = sgO fr to q) : p = q := by
  have h2 : (if p = to then fr else if fr ≤ p ∧ p < to then p + 1 else if to < p ∧ p ≤ fr then p - 1 else p) = (if q = to then fr else if fr ≤ q ∧ q < to then q + 1 else if to < q ∧ q ≤ fr then q - 1 else q) := h
  repeat' split at h2
  all_goals omega
theorem IV.perm (h : IV M od oc rc td g rg H) (σ : Nat → Nat) (h1 : ∀ p, od' p = od (σ p)) (h2 : ∀ p, p < 8 → σ p < 8) (h3 : ∀ p q, σ p = σ q → p = q) (h4 : ∀ p, p < rc' → σ p < rc) (h5 : rc' ≤ rc) (e2 : N.2.1 = mrC od') (e1 : ∀ a k, a ≠ 0 → N.1 a k = M.1 a k) (e3 : N.1 0 1 = M.1 0 1) (e4 : N.1 0 3 = nI rc') (e5 : N.1 0 4 = M.1 0 4) (e6 : N.1 0 5 = M.1 0 5) : IV N od' oc rc' td g rg H := by
  have h8 := h.rc8
  refine ⟨⟨e2, fun p hp => by rw [h1]; exact h.od8 _ (h2 p hp), fun p q hp hq e => ?_, h.oc8, by omega, h.td9, e3.trans h.hoc, e4, e5.trans h.hg, e6.trans h.htd⟩, IVO.cg (fun a k _ _ => e1 a k (by omega)) (Nat.le_refl _) h.2.1, ⟨fun p hp => ?_, fun p q hp hq e => ?_⟩, fun p f hp hf => ?_⟩
  · rw [h1, h1] at e
    exact h3 p q (h.odi _ _ (h2 p hp) (h2 q hq) e)
  · rw [h1]
    exact (h.rule _ (h4 p hp)).cg (fun k => e1 _ _ (by omega)) (fun k => e1 _ _ (by omega)) (Nat.le_refl _) (Nat.le_refl _) (Nat.le_refl _)
  · rw [h1, h1, e1 _ _ (by omega), e1 _ _ (by omega)] at e
    exact h3 p q (h.num _ _ (h4 p hp) (h4 q hq) e)
  · rw [h1, e1 _ _ (by omega), e1 _ _ (by omega), mtv_c15 (fun a k _ _ => e1 a k (by omega)) (h.hfo _ f (h4 p hp) hf)]
    exact h.2.2.2 _ f (h4 p hp) hf
theorem IV.shift (h : IV M od oc rc td g rg H) {fr to : Nat} (h1 : fr < rc) (h2 : to < rc) : IV (odM M (shO od fr to)) (shO od fr to) oc rc td g rg H := by
  have h8 := h.rc8
  exact h.perm (sgO fr to) (fun p => shO_sg od fr to p) (fun p hp => sg_lt (by omega) (by omega) hp) (fun p q e => sg_inj e) (fun p hp => sg_lt h1 h2 hp) (Nat.le_refl _) rfl (fun _ _ _ => rfl) rfl h.hrc rfl rfl
theorem IV.removeRule (h : IV M od oc rc td g rg H) {p : Nat} (hp : p < rc) : IV (rmM M od rc p) (shO od p (rc - 1)) oc (rc - 1) td g rg H := by
  have h8 := h.rc8
  have e0 : ∀ x k, (rmM M od rc p).1 x k = if x = 0 ∧ k = 3 then nI (rc - 1) else M.1 x k := fun x k => rfl
  exact h.perm (sgO p (rc - 1)) (fun q => shO_sg od p (rc - 1) q) (fun q hq => sg_lt (by omega) (by omega) hq) (fun q r e => sg_inj e) (fun q hq => sg_lt hp (by omega) (by omega)) (by omega) rfl (fun a k ha => by rw [e0, if_neg (by omega)]) (by rw [e0, if_neg (by omega)]) (by rw [e0, if_pos ⟨rfl, rfl⟩]) (by rw [e0, if_neg (by omega)]) (by rw [e0, if_neg (by omega)])
/-- one rule's own numbers have changed -/
theorem IV.one (h : IV M od oc rc td g rg H) {p : Nat} (hp : p < rc) (h2 : N.2.1 = M.2.1) (hO : ∀ a k, a ≠ 31 + 3 * od p → N.1 a k = M.1 a k) (h0 : N.1 (31 + 3 * od p) 0 = M.1 (31 + 3 * od p) 0) (hz : H ≤ H') (hr : IVr N (od p) oc g H') : IV N od oc rc td g rg H' := by
  have h8 := h.rc8
  have hne : ∀ q, q < rc → q ≠ p → od q ≠ od p := fun q hq hn e => hn (h.odi q p (by omega) (by omega) e)
  have hnum : ∀ q, q < rc → N.1 (31 + 3 * od q) 0 = M.1 (31 + 3 * od q) 0 := fun q hq => by
    by_cases e : q = p
    · rw [e]; exact h0
    · have := hne q hq e
      exact hO _ _ (by omega)
  refine ⟨⟨h2.trans h.mr, h.od8, h.odi, h.oc8, h8, h.td9, (hO _ _ (by omega)).trans h.hoc, (hO _ _ (by omega)).trans h.hrc, (hO _ _ (by omega)).trans h.hg, (hO _ _ (by omega)).trans h.htd⟩, IVO.cg (fun a k _ _ => hO a k (by omega)) (Nat.le_refl _) h.2.1, ⟨fun q hq => ?_, fun q r hq hr' e => ?_⟩, fun q f hq hf => ?_⟩
  · by_cases e : q = p
    · rw [e]; exact hr
    · have := hne q hq e
      exact (h.rule q hq).cg (fun k => hO _ _ (by omega)) (fun k => hO _ _ (by omega)) (Nat.le_refl _) (Nat.le_refl _) hz
  · rw [hnum q hq, hnum r hr'] at e
    exact h.num q r hq hr' e
  · rw [hO _ _ (by omega), hO _ _ (show 32 + 3 * od q ≠ _ by omega), mtv_c15 (fun a k _ _ => hO a k (by omega)) (h.hfo q f hq hf)]
    exact h.2.2.2 q f hq hf
theorem IV.setLastDay (h : IV M od oc rc td g rg H) {p : Nat} (hp : p < rc) {y : Int32} (hy : y = -1 ∨ ∃ d : Nat, d ≤ 999 ∧ y = nI d) : IV (sdM M (od p) y) od oc rc td g rg H := by
  have e0 : ∀ x k, (sdM M (od p) y).1 x k = if x = 31 + 3 * od p ∧ k = 3 then y else M.1 x k := fun x k => rfl
  obtain ⟨⟨n, n1, n2⟩, a, d, ⟨x, z, y1, y2, y3, y4⟩, f⟩ := h.rule p hp
  refine h.one hp rfl (fun a k ha => by rw [e0, if_neg (by omega)]) (by rw [e0, if_neg (by omega)]) (Nat.le_refl _) ⟨⟨n, n1, by rw [e0, if_neg (by omega)]; exact n2⟩, by rw [e0, if_neg (by omega)]; exact a, by rw [e0, if_pos ⟨rfl, rfl⟩]; exact hy, ⟨x, z, y1, y2, by rw [e0, if_neg (by omega)]; exact y3, by rw [e0, if_neg (by omega)]; exact y4⟩, fun q hq => by rw [e0, if_neg (by omega)]; exact f q hq⟩
theorem hi_at (M : pmM) (j : Nat) (td : Int32) (x k : Nat) : (hiM M j td).1 x k = if x = 31 + 3 * j ∧ k = 7 then td else if x = 31 + 3 * j ∧ k = 5 then M.1 (31 + 3 * j) 5 + nI 1 else if x = 31 + 3 * j ∧ k = 6 ∧ M.1 (31 + 3 * j) 7 ≠ td then M.1 (31 + 3 * j) 6 + nI 1 else M.1 x k := by
  have e1 : hi1 M j td (31 + 3 * j) 5 = M.1 (31 + 3 * j) 5 := by
    unfold hi1
    by_cases q : M.1 (31 + 3 * j) 7 = td
    · rw [if_pos q]
    · rw [if_neg q]; exact pm2_k (by decide)
  show (if x = 31 + 3 * j ∧ k = 7 then td else if x = 31 + 3 * j ∧ k = 5 then hi1 M j td (31 + 3 * j) 5 + nI 1 else hi1 M j td x k) = _
  rw [e1]
  by_cases q7 : x = 31 + 3 * j ∧ k = 7
  · rw [if_pos q7, if_pos q7]
  · rw [if_neg q7, if_neg q7]
    by_cases q5 : x = 31 + 3 * j ∧ k = 5
    · rw [if_pos q5, if_pos q5]
    · rw [if_neg q5, if_neg q5]
      unfold hi1
      by_cases q : M.1 (31 + 3 * j) 7 = td
      · rw [if_pos q, if_neg (fun z => z.2.2 q)]
      · rw [if_neg q]
        by_cases q6 : x = 31 + 3 * j ∧ k = 6
        · rw [if_pos ⟨q6.1, q6.2, q⟩, q6.1, q6.2]; exact pm2_e
        · rw [if_neg (fun z => q6 ⟨z.1, z.2.1⟩)]
          exact if_neg q6
theorem IV.packet (h : IV M od oc rc td g rg H) {p : Nat} (hp : p < rc) (t : Int32) : IV (hiM M (od p) t) od oc rc td g rg (H + 1) := by
  obtain ⟨⟨n, n1, n2⟩, a, d, ⟨x, z, y1, y2, y3, y4⟩, f⟩ := h.rule p hp
  refine h.one hp rfl (fun a k ha => by rw [hi_at, if_neg (by omega), if_neg (by omega), if_neg (by omega)]) (by rw [hi_at, if_neg (by omega), if_neg (by omega), if_neg (by omega)]) (Nat.le_succ _) ⟨⟨n, n1, by rw [hi_at, if_neg (by omega), if_neg (by omega), if_neg (by omega)]; exact n2⟩, by rw [hi_at, if_neg (by omega), if_neg (by omega), if_neg (by omega)]; exact a, by rw [hi_at, if_neg (by omega), if_neg (by omega), if_neg (by omega)]; exact d, ?_, fun q hq => by rw [hi_at, if_neg (by omega), if_neg (by omega), if_neg (by omega)]; exact f q hq⟩
  rw [hi_at, if_neg (by omega), if_pos ⟨rfl, rfl⟩, hi_at, if_neg (by omega), if_neg (by omega), y3, y4]
  by_cases q : M.1 (31 + 3 * od p) 7 = t
  · rw [if_neg (fun w => w.2.2 q)]
    exact ⟨x + 1, z, by omega, by omega, nI_add _ _, rfl⟩
  · rw [if_pos ⟨rfl, rfl, q⟩]
    exact ⟨x + 1, z + 1, by omega, by omega, nI_add _ _, nI_add _ _⟩
theorem anM_at (M : pmM) (j rc g : Nat) (ac ow td a b c : Int32) {k : Nat} : (anM M j rc g ac ow td a b c).1 (31 + 3 * j) k = if k = 7 then -1 else if k = 6 then nI 0 else if k = 5 then nI 0 else if k = 4 then td else if k = 3 then -1 else if k = 2 then ow else if k = 1 then ac else if k = 0 then nI g else M.1 (31 + 3 * j) k := by
  unfold anM nrM beM
  show (if 31 + 3 * j = 0 ∧ k = 3 then _ else if 31 + 3 * j = 0 ∧ k = 4 then _ else if 31 + 3 * j = 32 + 3 * j ∧ k = 2 then _ else if 31 + 3 * j = 32 + 3 * j ∧ k = 1 then _ else if 31 + 3 * j = 32 + 3 * j ∧ k = 0 then _ else if 31 + 3 * j = 31 + 3 * j ∧ k = 7 then _ else if 31 + 3 * j = 31 + 3 * j ∧ k = 6 then _ else if 31 + 3 * j = 31 + 3 * j ∧ k = 5 then _ else if 31 + 3 * j = 31 + 3 * j ∧ k = 4 then _ else if 31 + 3 * j = 31 + 3 * j ∧ k = 3 then _ else if 31 + 3 * j = 31 + 3 * j ∧ k = 2 then _ else if 31 + 3 * j = 31 + 3 * j ∧ k = 1 then _ else if 31 + 3 * j = 31 + 3 * j ∧ k = 0 then _ else M.1 (31 + 3 * j) k) = _
  rw [if_neg (by omega), if_neg (by omega), if_neg (by omega), if_neg (by omega), if_neg (by omega)]
  simp only [true_and]
theorem IV.addRule (h : IV M od oc rc td g rg H) {p : Nat} (hp : p ≤ rc) (hlt : rc < 8) (hg : g < 2 ^ 30) {ac ow a b c t : Int32} (hac : ac = nI 97 ∨ ac = nI 100) (ha : obOk oc a) (hb : obOk oc b) (hc : obOk oc c) : IV (umM (odM (anM M (od rc) rc g ac ow t a b c) (shO od rc p)) (shO od rc p) rg (rc + 1)) (shO od rc p) oc (rc + 1) td (g + 1) rg H := by
  have hA : ∀ x k, x ≠ 0 → x ≠ 31 + 3 * od rc → x ≠ 32 + 3 * od rc → (odM (anM M (od rc) rc g ac ow t a b c) (shO od rc p)).1 x k = M.1 x k := fun x k h0 h1 h2 => anM_no h0 h1 h2
  have hne : ∀ q, q < rc → od q ≠ od rc := fun q hq e => by
    have := h.odi q rc (by omega) (by omega) e
    omega
  have hz : ∀ k, k ≠ 3 → k ≠ 4 → (odM (anM M (od rc) rc g ac ow t a b c) (shO od rc p)).1 0 k = M.1 0 k := fun k h3 h4 => by
    show (pm2 (pm2 (nrM M (od rc) (nI g) ac ow t a b c).1 0 4 (nI (g + 1))) 0 3 (nI (rc + 1))) 0 k = _
    rw [pm2_k h3, pm2_k h4]
    exact nrM_no (by omega) (by omega)
  have hsg : ∀ q, q < rc + 1 → sgO rc p q < rc + 1 := fun q hq => sg_lt (by omega) (by omega) hq
  refine IV.um ⟨rfl, shO_lt h.od8 (by omega) (by omega), fun q r hq hr e => ?_, h.oc8, by omega, h.td9, (hz 1 (by decide) (by decide)).trans h.hoc, rfl, rfl, (hz 5 (by decide) (by decide)).trans h.htd⟩ (IVO.cg (fun x k h1 h2 => hA x k (by omega) (by omega) (by omega)) (Nat.le_refl _) h.2.1) ⟨fun q hq => ?_, fun q r hq hr e => ?_⟩
  · rw [shO_sg, shO_sg] at e
    exact sg_inj (h.odi _ _ (sg_lt (by omega) (by omega) hq) (sg_lt (by omega) (by omega) hr) e)
  · rw [shO_sg]
    have hq2 := hsg q hq
    by_cases e : sgO rc p q = rc
    · rw [e]
      have hN : ∀ k, (odM (anM M (od rc) rc g ac ow t a b c) (shO od rc p)).1 (31 + 3 * od rc) k = _ := fun k => anM_at M (od rc) rc g ac ow t a b c
      refine ⟨⟨g, by omega, by rw [hN]; rfl⟩, by rw [hN]; exact hac, by rw [hN]; exact Or.inl rfl, ⟨0, 0, Nat.le_refl _, Nat.zero_le _, by rw [hN]; rfl, by rw [hN]; rfl⟩, fun f hf => ?_⟩
      show obOk oc ((anM M (od rc) rc g ac ow t a b c).1 (32 + 3 * od rc) f)
      rw [anM_B hf]
      split
      · exact ha
      · split
        · exact hb
        · exact hc
    · have hlt2 : sgO rc p q < rc := by omega
      have := hne _ hlt2
      exact (h.rule _ hlt2).cg (fun k => hA _ _ (by omega) (by omega) (by omega)) (fun k => hA _ _ (by omega) (by omega) (by omega)) (Nat.le_refl _) (Nat.le_succ _) (Nat.le_refl _)
  · rw [shO_sg, shO_sg] at e
    have hq2 := hsg q hq
    have hr2 := hsg r hr
    refine sg_inj (fr := rc) (to := p) ?_
    have hold : ∀ s, s < rc → ∃ n, n < g ∧ (odM (anM M (od rc) rc g ac ow t a b c) (shO od rc p)).1 (31 + 3 * od s) 0 = nI n ∧ M.1 (31 + 3 * od s) 0 = nI n := fun s hs => by
      obtain ⟨⟨n, n1, n2⟩, -⟩ := h.rule s hs
      have := hne s hs
      exact ⟨n, n1, by rw [hA _ _ (by omega) (by omega) (by omega)]; exact n2, n2⟩
    have hnew : (odM (anM M (od rc) rc g ac ow t a b c) (shO od rc p)).1 (31 + 3 * od rc) 0 = nI g := (anM_at M (od rc) rc g ac ow t a b c).trans rfl
    by_cases e1 : sgO rc p q = rc
    · by_cases e2 : sgO rc p r = rc
      · rw [e1, e2]
      · obtain ⟨n, n1, n2, -⟩ := hold _ (show sgO rc p r < rc by omega)
        rw [e1, hnew, n2] at e
        have := (nI_eq (by omega) (by omega)).mp e
        omega
    · by_cases e2 : sgO rc p r = rc
      · obtain ⟨n, n1, n2, -⟩ := hold _ (show sgO rc p q < rc by omega)
        rw [e2, hnew, n2] at e
        have := (nI_eq (by omega) (by omega)).mp e
        omega
      · obtain ⟨n, n1, n2, n3⟩ := hold _ (show sgO rc p q < rc by omega)
        obtain ⟨n', n1', n2', n3'⟩ := hold _ (show sgO rc p r < rc by omega)
        rw [n2, n2'] at e
        exact h.num _ _ (by omega) (by omega) (by rw [n3, n3', e])
/-! what addRange does to the decisions -/
theorem bits_list (b : Nat → Bool) : ∀ n, ∃ (c : Nat) (f : Nat → Nat), (∀ k, k < c → f k < n ∧ b (f k) = true) ∧ ∀ i, i < n → b i = true → ∃ k, k < c ∧ f k = i
  | 0 => ⟨0, fun _ => 0, fun k hk => absurd hk (Nat.not_lt_zero k), fun i hi => absurd hi (Nat.not_lt_zero i)⟩
  | n + 1 => by
    obtain ⟨c, f, h1, h2⟩ := bits_list b n
    by_cases q : b n = true
    · refine ⟨c + 1, fun k => if k = c then n else f k, fun k hk => ?_, fun i hi hb => ?_⟩
      · by_cases e : k = c
        · simp only [if_pos e]; exact ⟨by omega, q⟩
        · simp only [if_neg e]
          have := h1 k (by omega)
          exact ⟨by omega, this.2⟩
      · by_cases e : i = n
        · exact ⟨c, by omega, by simp only [if_pos trivial]; exact e.symm⟩
        · obtain ⟨k, k1, k2⟩ := h2 i (by omega) hb
          exact ⟨k, by omega, by simp only [if_neg (show ¬ k = c by omega)]; exact k2⟩
    · refine ⟨c, f, fun k hk => ⟨by have := (h1 k hk).1; omega, (h1 k hk).2⟩, fun i hi hb => ?_⟩
      by_cases e : i = n
      · rw [e] at hb; exact absurd hb q
      · exact h2 i (by omega) hb
theorem mb_ex (hO : IVO M oc rg) (h8 : oc ≤ 8) : ∃ (mc : Nat → Nat) (mb : Nat → Nat → Nat), (∀ o k, o < oc → k < mc o → mb o k < oc) ∧ MB M oc mc mb := by
  have hex : ∀ o, ∃ q : Nat × (Nat → Nat), (∀ k, k < q.1 → q.2 k < 32 ∧ hasb (M.1 (15 + 2 * o) 2) (q.2 k) = true) ∧ ∀ i, i < 32 → hasb (M.1 (15 + 2 * o) 2) i = true → ∃ k, k < q.1 ∧ q.2 k = i := fun o => by
    obtain ⟨c, f, h⟩ := bits_list (hasb (M.1 (15 + 2 * o) 2)) 32
    exact ⟨(c, f), h⟩
  refine ⟨fun o => (hex o).choose.1, fun o => (hex o).choose.2, fun o k ho hk => ?_, fun o ho i hi => ⟨fun hb => ?_, fun hb => ?_⟩⟩
  · have := (hex o).choose_spec.1 k hk
    exact (hO o (by omega)).2.1 _ this.1 this.2
  · exact (hex o).choose_spec.2 i hi hb
  · obtain ⟨k, hk, rfl⟩ := hb
    exact ((hex o).choose_spec.1 k hk).2
theorem hasb_orN2 (f : Nat → Int32) (v : Nat) (n : Nat) : hasb (orN f (n + 1)) v = (hasb (orN f n) v || hasb (f n) v) := by rw [orN, hasb_or]
theorem orN_cg {f f' : Nat → Int32} : ∀ n, (∀ k, k < n → f' k = f k) → orN f' n = orN f n
  | 0, _ => rfl
  | n + 1, h => by rw [orN, orN, orN_cg n (fun k hk => h k (by omega)), h n (by omega)]
theorem ar_vo (h : IV M od oc rc td g rg H) {o a b q : Nat} (ho : o < oc) (hlt : rg o < 3) (hq : q < oc) (v : Nat) : hasb (voF (arM M o (rg o) a b) (rgS rg o (rg o + 1)) 8 q) v = (hasb (voF M rg 8 q) v || (ionF M (nI q) o && hasb (rgO a b) v)) := by
  have h8 := h.oc8
  obtain ⟨mc, mb, hb, hm⟩ := mb_ex h.2.1 h8
  have hm' : MB (arM M o (rg o) a b) oc mc mb := fun x hx i hi => by
    rw [arM_at, if_neg (by omega), if_neg (by omega)]
    exact hm x hx i hi
  have e1 := vo_iff (rg := rgS rg o (rg o + 1)) hb h8 hm' v 7 q hq
  have e2 := vo_iff (rg := rg) hb h8 hm v 7 q hq
  have e3 := ion_iff hb h8 hm hq ho
  have row : ∀ x, x < oc → hasb (orN ((arM M o (rg o) a b).1 (16 + 2 * x)) (rgS rg o (rg o + 1) x)) v = (hasb (orN (M.1 (16 + 2 * x)) (rg x)) v || (decide (x = o) && hasb (rgO a b) v)) := fun x hx => by
    by_cases e : x = o
    · subst e
      rw [show rgS rg x (rg x + 1) x = rg x + 1 from if_pos rfl, hasb_orN2, decide_eq_true rfl, Bool.true_and, orN_cg (f := M.1 (16 + 2 * x)) (rg x) (fun k hk => by rw [arM_at, if_neg (by omega), if_neg (by omega)]), arM_at, if_neg (by omega), if_pos ⟨rfl, rfl⟩]
    · rw [show rgS rg o (rg o + 1) x = rg x from if_neg e, decide_eq_false e, Bool.false_and, Bool.or_false, orN_cg (f := M.1 (16 + 2 * x)) (rg x) (fun k hk => by rw [arM_at, if_neg (by omega), if_neg (by omega)])]
  rw [Bool.eq_iff_iff, e1, Bool.or_eq_true, e2, Bool.and_eq_true, e3]
  constructor
  · rintro ⟨x, x1, x2, x3⟩
    rw [row x x1, Bool.or_eq_true, Bool.and_eq_true] at x3
    rcases x3 with x3 | ⟨x3, x4⟩
    · exact Or.inl ⟨x, x1, x2, x3⟩
    · have := of_decide_eq_true x3
      subst this
      exact Or.inr ⟨x2, x4⟩
  · rintro (⟨x, x1, x2, x3⟩ | ⟨x2, x4⟩)
    · exact ⟨x, x1, x2, by rw [row x x1, x3]; rfl⟩
    · exact ⟨o, ho, x2, by rw [row o ho, decide_eq_true rfl, x4]; exact Bool.or_true _⟩
theorem ar_dec (h : IV M od oc rc td g rg H) {o a b : Nat} (ho : o < oc) (hlt : rg o < 3) (x y z : Nat) : dcA (umM (arM M o (rg o) a b) od (rgS rg o (rg o + 1)) rc) od rc x y z = dcT M od rc (nI o) (rgO a b) x y z := by
  have h8 := h.oc8
  have hr8 := h.rc8
  have hn : ∀ a' k, 31 ≤ a' → (arM M o (rg o) a b).1 a' k = M.1 a' k := fun a' k hx => by rw [arM_at, if_neg (by omega), if_neg (by omega)]
  have hu : ∀ a' k, (a' % 3 ≠ 0 ∨ a' < 33) → 31 ≤ a' → (umM (arM M o (rg o) a b) od (rgS rg o (rg o + 1)) rc).1 a' k = M.1 a' k := fun a' k h1 h2 => (umM_no _ h1).trans (hn a' k h2)
  have hbit : ∀ p f v, p < rc → f < 3 → hasb ((umM (arM M o (rg o) a b) od (rgS rg o (rg o + 1)) rc).1 (33 + 3 * od p) f) v = hasb (thF M od f (nI o) (rgO a b) p) v := fun p f v hp hf => by
    rw [um_at h.od8 hp hf, hn _ _ (by omega)]
    unfold thF
    rw [ixN_nI (show o < 8 by omega), h.2.2.2 p f hp hf]
    rcases (h.rule p hp).2.2.2.2 f hf with e | ⟨q, hq, e⟩
    · rw [e, if_neg (by unfold ionF; rw [decide_eq_false (fun w => w rfl), Bool.false_and]; exact fun w => Bool.noConfusion w.2)]
      unfold mtv
      rw [if_pos rfl, if_pos rfl]
    · rw [e]
      unfold mtv
      rw [if_neg (nI_m1 (by omega)), if_neg (nI_m1 (by omega)), ixN_nI (by omega), ar_vo h ho hlt hq v]
      by_cases qi : ionF M (nI q) o = true
      · rw [qi, Bool.true_and]
        by_cases qz : rgO a b = 0
        · rw [if_neg (fun w => w.1 qz), qz, hasb_0, Bool.or_false]
        · rw [if_pos ⟨qz, rfl⟩, hasb_or]
      · rw [Bool.not_eq_true _ |>.mp qi, Bool.false_and, Bool.or_false, if_neg (fun w => Bool.noConfusion w.2)]
  have h0 : (umM (arM M o (rg o) a b) od (rgS rg o (rg o + 1)) rc).1 0 5 = M.1 0 5 := (umM_no _ (by omega)).trans (by rw [arM_at, if_neg (by omega), if_neg (by omega)])
  unfold dcA dcT
  refine dcR_congr rc 0 0 (fun p hp => ?_)
  rw [Nat.zero_add]
  refine ⟨?_, ?_⟩
  · unfold msP thP inF maF
    rw [hu _ _ (by omega) (by omega), h0, hbit p 0 x hp (by decide), hbit p 1 y hp (by decide), hbit p 2 z hp (by decide)]
  · unfold acP
    rw [hu _ _ (by omega) (by omega)]
end IVS
