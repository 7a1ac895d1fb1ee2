/-! ===== both orders: the same rules at the same positions ===== -/
def TI (M : pmM) (S : Nat → Int32) (od mo : Nat → Nat) (rc : Nat) : Prop :=
  (∀ p, p < rc → ∀ a b c, a < 32 → b < 32 → c < 32 → msP M od p a b c = mkP M S mo p a b c) ∧ (∀ p, p < rc → inF M od p = onM M (mo p)) ∧ (∀ p, p < rc → acP M od p = !decide (M.1 73 (mo p) = 0)) ∧ (∀ p, p < rc → M.1 (31 + 3 * od p) 1 = nI 97 ∨ M.1 (31 + 3 * od p) 1 = nI 100) ∧ ∀ p, p < rc → M.1 (31 + 3 * od p) 5 = M.1 77 (mo p)
theorem sg_lt {fr to p n : Nat} (h1 : fr < n) (h2 : to < n) (hp : p < n) : sgO fr to p < n := by
  show (if p = to then fr else if fr ≤ p ∧ p < to then p + 1 else if to < p ∧ p ≤ fr then p - 1 else p) < n
  repeat' split
  all_goals omega
theorem TI.sh {M : pmM} {S : Nat → Int32} {od mo : Nat → Nat} {rc : Nat} (h : TI M S od mo rc) {fr to : Nat} (h1 : fr < rc) (h2 : to < rc) : TI M S (shO od fr to) (shO mo fr to) rc := by
  obtain ⟨t1, t2, t3, t4, t5⟩ := h
  refine ⟨fun p hp a b c ha hb hc => ?_, fun p hp => ?_, fun p hp => ?_, fun p hp => ?_, fun p hp => ?_⟩
  · have := t1 _ (sg_lt h1 h2 hp) a b c ha hb hc
    unfold msP inF mkP at this ⊢
    rw [shO_sg, shO_sg]; exact this
  · have := t2 _ (sg_lt h1 h2 hp)
    unfold inF at this ⊢
    rw [shO_sg, shO_sg]; exact this
  · have := t3 _ (sg_lt h1 h2 hp)
    unfold acP at this ⊢
    rw [shO_sg, shO_sg]; exact this
  · rw [shO_sg]; exact t4 _ (sg_lt h1 h2 hp)
  · rw [shO_sg, shO_sg]; exact t5 _ (sg_lt h1 h2 hp)
section TIE
variable {M : pmM} {S : Nat → Int32} {od mo : Nat → Nat} {rc : Nat}
theorem acB_of (h : TI M S od mo rc) {p a b c : Nat} (hp : p < rc) (hm : mkP M S mo p a b c = true) : acB M mo p = acP M od p := by
  unfold acB
  rw [h.2.2.1 p hp]
  have : onM M (mo p) = true := by
    unfold mkP at hm
    exact (Bool.and_eq_true _ _ ▸ hm : onM M (mo p) = true ∧ _).1
  rw [this, Bool.true_and]
theorem dc_same (h : TI M S od mo rc) {a b c : Nat} (ha : a < 32) (hb : b < 32) (hc : c < 32) (σ : Nat → Nat) {n : Nat} (hσ : ∀ p, p < n → σ p < rc) : dcR (fun p => mkP M S (fun q => mo (σ q)) p a b c) (acB M (fun q => mo (σ q))) 0 n false = dcR (fun p => msP M od (σ p) a b c) (fun p => acP M od (σ p)) 0 n false :=
  dcR_congr2 n 0 0 (fun i hi => by
    rw [Nat.zero_add]
    exact ⟨(h.1 (σ i) (hσ i hi) a b c ha hb hc).symm, fun hm => acB_of h (hσ i hi) hm⟩)
theorem de_dc (h : TI M S od mo rc) (h8 : rc ≤ 8) {p : Nat} (hp : p < rc) : deE M od p = nI (dcN (bkC M S mo rc) p) := by
  rw [de_cn3 M od (by omega), dc_cn3 M S mo h8 hp]
  refine congrArg nI (cn3_congr (fun a b c ha hb hc => ?_))
  rw [h.1 p hp a b c ha hb hc, anyB_congr (f := fun q => msP M od q a b c) (g := fun q => mkP M S mo q a b c) p (fun i hi => h.1 i (by omega) a b c ha hb hc)]
theorem ch_ul (h : TI M S od mo rc) (h8 : rc ≤ 8) {fr to : Nat} (h1 : fr < rc) (h2 : to < rc) : chE M od fr to = nI (ulN (bkC M S mo rc) (bkC M S (shO mo fr to) rc)) := by
  have e1 : ∀ a b c, a < 32 → b < 32 → c < 32 → (xor (dcR (fun p => mkP M S mo p a b c) (acB M mo) 0 rc false) (dcR (fun p => mkP M S (shO mo fr to) p a b c) (acB M (shO mo fr to)) 0 rc false)).toNat = (xor (dcR (fun p => msP M od p a b c) (acP M od) 0 rc false) (dcR (fun p => msP M od (sgO fr to p) a b c) (fun p => acP M od (sgO fr to p)) 0 rc false)).toNat := fun a b c ha hb hc => by
    rw [show shO mo fr to = fun q => mo (sgO fr to q) from funext fun q => shO_sg mo fr to q]
    have x1 := dc_same h ha hb hc (fun p => p) (n := rc) (fun p hp => hp)
    have x2 := dc_same h ha hb hc (sgO fr to) (n := rc) (fun p hp => sg_lt h1 h2 hp)
    rw [x2]
    exact congrArg Bool.toNat (congrArg (fun z => xor z _) x1)
  rw [ul_cn3 M S S mo _ h8 h8]
  unfold cn3
  rw [sm3_congr e1]
  unfold chE
  by_cases hlt : to < fr
  · rw [if_pos hlt, ca_sum M od (by omega) (by omega) (fun p hp => h.2.2.2.1 p (by omega)), sm3_congr (fun a b c _ _ _ => mv_up (fun p => msP M od p a b c) (acP M od) hlt h1)]
  · rw [if_neg hlt, ca_sum M od (by omega) (by omega) (fun p hp => h.2.2.2.1 p (by omega)), sm3_congr (fun a b c _ _ _ => mv_dn (fun p => msP M od p a b c) (acP M od) (Nat.not_lt.mp hlt) h2), show to + 1 - (fr + 1) = to - fr by omega]
theorem cr_ul (h : TI M S od mo rc) (h8 : rc ≤ 8) {p : Nat} (hp : p < rc) : crE M od rc p = nI (ulN (bkC M S mo rc) (bkC M S (rvO mo p) (rc - 1))) := by
  have e1 : ∀ a b c, a < 32 → b < 32 → c < 32 → (xor (dcR (fun p => mkP M S mo p a b c) (acB M mo) 0 rc false) (dcR (fun q => mkP M S (rvO mo p) q a b c) (acB M (rvO mo p)) 0 (rc - 1) false)).toNat = sumN (rc - (p + 1)) (fun i => (mvT (fun p => msP M od p a b c) (acP M od) p (p + 1 + i)).toNat) + (msP M od p a b c && (acP M od p && !anyB (fun i => !decide (i = p) && msP M od i a b c) rc)).toNat := fun a b c ha hb hc => by
    rw [← mv_rm (fun p => msP M od p a b c) (acP M od) hp]
    have x1 := dc_same h ha hb hc (fun p => p) (n := rc) (fun p hp => hp)
    have x2 := dc_same h ha hb hc (fun q => if p ≤ q then q + 1 else q) (n := rc - 1) (fun q hq => by show (if p ≤ q then _ else _) < rc; split <;> omega)
    have e : rvO mo p = fun q => mo ((fun q => if p ≤ q then q + 1 else q) q) := funext fun q => by unfold rvO; show _ = mo (if p ≤ q then q + 1 else q); split <;> rfl
    rw [e, x2]
    have x3 : dcR (fun p_1 => msP M od ((fun q => if p ≤ q then q + 1 else q) p_1) a b c) (fun p_1 => acP M od ((fun q => if p ≤ q then q + 1 else q) p_1)) 0 (rc - 1) false = dcR (fun i => if p ≤ i then msP M od (i + 1) a b c else msP M od i a b c) (fun i => if p ≤ i then acP M od (i + 1) else acP M od i) 0 (rc - 1) false := dcR_congr (rc - 1) 0 0 (fun i _ => by
      rw [Nat.zero_add]
      by_cases q : p ≤ i
      · simp only [if_pos q]; exact ⟨trivial, trivial⟩
      · simp only [if_neg q]; exact ⟨trivial, trivial⟩)
    rw [x3]
    exact congrArg Bool.toNat (congrArg (fun z => xor z _) x1)
  rw [ul_cn3 M S S mo _ h8 (by omega)]
  unfold cn3
  rw [sm3_congr e1, sm3_add, ← nI_add, ← ca_sum M od (by omega) h8 (fun q hq => h.2.2.2.1 q (by omega))]
  unfold crE
  by_cases hc : M.1 (31 + 3 * od p) 1 = nI 97 ∧ inF M od p = true
  · rw [if_pos hc, lb_cnt M od _ _ (clr_lt (ifN_256 _ h8))]
    refine congrArg (fun z => caE M od p (p + 1) rc + nI z) (cn3_congr (fun a b c _ _ _ => ?_))
    rw [noM_clr2 M od h8 (by omega), show msP M od p a b c = maF M (od p) a b c by unfold msP; rw [hc.2]; rfl, show acP M od p = true from decide_eq_true hc.1]
    cases maF M (od p) a b c <;> rfl
  · rw [if_neg hc]
    have h0 : sm3 (fun a b c => (msP M od p a b c && (acP M od p && !anyB (fun i => !decide (i = p) && msP M od i a b c) rc)).toNat) = 0 := by
      rw [sm3_congr (G := fun _ _ _ => 0) (fun a b c _ _ _ => ?_), sm3_zero]
      by_cases hi : inF M od p = true
      · have ha : acP M od p = false := decide_eq_false (fun z => hc ⟨z, hi⟩)
        rw [ha, Bool.false_and, Bool.and_false]; rfl
      · rw [show msP M od p a b c = false by unfold msP; rw [Bool.not_eq_true _ |>.mp hi, Bool.false_and], Bool.false_and]; rfl
    rw [h0, nI_0, Int32.add_zero]
theorem ac_sum (h : TI M S od mo rc) (h8 : rc ≤ 8) : ∀ n, n ≤ rc → acS M od n = nI (sm3 (fun a b c => sumN n (fun p => (msP M od p a b c && (xor (acP M od p) false && !anyB (fun j => msP M od j a b c) p)).toNat)))
  | 0, _ => by rw [show sm3 (fun a b c => sumN 0 (fun p => (msP M od p a b c && (xor (acP M od p) false && !anyB (fun j => msP M od j a b c) p)).toNat)) = 0 from sm3_zero]; rfl
  | n + 1, hn => by
    rw [acS, ac_sum h h8 n (by omega)]
    show _ = nI (sm3 (fun a b c => sumN n (fun p => (msP M od p a b c && (xor (acP M od p) false && !anyB (fun j => msP M od j a b c) p)).toNat) + (msP M od n a b c && (xor (acP M od n) false && !anyB (fun j => msP M od j a b c) n)).toNat))
    rw [sm3_add]
    by_cases hc : M.1 (31 + 3 * od n) 1 = nI 97
    · rw [if_pos hc, de_cn3 M od (by omega), nI_add]
      refine congrArg nI (congrArg _ (sm3_congr (fun a b c _ _ _ => ?_)))
      rw [show acP M od n = true from decide_eq_true hc]
      rfl
    · rw [if_neg hc]
      have h0 : sm3 (fun a b c => (msP M od n a b c && (xor (acP M od n) false && !anyB (fun j => msP M od j a b c) n)).toNat) = 0 := by
        rw [sm3_congr (G := fun _ _ _ => 0) (fun a b c _ _ _ => ?_), sm3_zero]
        rw [show acP M od n = false from decide_eq_false hc]
        show (_ && (false && _)).toNat = 0
        rw [Bool.false_and, Bool.and_false]; rfl
      rw [h0, Nat.add_zero]
theorem ac_dc (h : TI M S od mo rc) (h8 : rc ≤ 8) : acS M od rc = nI (cntN (fun x => dcB (at1 (bkC M S mo rc) 0 x) (bkC M S mo rc 96)) 32768) := by
  rw [ac_sum h h8 rc (Nat.le_refl _)]
  refine congrArg nI ?_
  rw [cntN_congr (b' := fun x => (fun a b c => dcR (fun p => mkP M S mo p a b c) (acB M mo) 0 rc false) (x / 1024) (x / 32 % 32) (x % 32)) 32768 (fun x hx => by
    rw [at1_bits M S mo rc x hx, show bkC M S mo rc 96 = ifN (acB M mo) rc by unfold bkC; rw [if_pos rfl], dcB_ifN _ _ h8])]
  refine Eq.trans ?_ (cn3_flat (fun a b c => dcR (fun p => mkP M S mo p a b c) (acB M mo) 0 rc false)).symm
  refine sm3_congr (fun a b c ha hb hc => ?_)
  have x1 := dc_same h ha hb hc (fun p => p) (n := rc) (fun p hp => hp)
  have x2 := sum_first (fun p => msP M od p a b c) (acP M od) false rc 0
  rw [Bool.xor_false] at x2
  show _ = (dcR (fun p => mkP M S mo p a b c) (acB M mo) 0 rc false).toNat
  refine Eq.trans ?_ (congrArg Bool.toNat x1).symm
  refine Eq.trans ?_ x2.symm
  refine sumN_congr rc (fun i _ => ?_)
  rw [Nat.zero_add, anyB_congr (f := fun j => msP M od (0 + j) a b c) (g := fun j => msP M od j a b c) i (fun j _ => by rw [Nat.zero_add])]
theorem ul_le (f g : Nat → Nat) : ulN f g ≤ 32768 := cntN_le _ _
theorem sw_mp (h : TI M S od mo rc) (h8 : rc ≤ 8) : ∀ i, i ≤ rc - 1 → TI M S (swF M od i).1 (mpF M S rc mo i).1 rc ∧ (swF M od i).2 = (mpF M S rc mo i).2
  | 0, _ => ⟨h, rfl⟩
  | i + 1, hi => by
    obtain ⟨t, e⟩ := sw_mp h h8 i (by omega)
    have hb : swB M (swF M od i).1 i = mdB M S rc (mpF M S rc mo i).1 i := by
      unfold swB mdB
      rw [t.2.2.2.2 i (by omega), t.2.2.2.2 (i + 1) (by omega), ch_ul t h8 (show i < rc by omega) (show i + 1 < rc by omega)]
      congr 1
      rw [decide_eq_decide]
      have := ul_le (bkC M S (mpF M S rc mo i).1 rc) (bkC M S (shO (mpF M S rc mo i).1 i (i + 1)) rc)
      constructor
      · intro z
        exact (nI_eq (b := 0) (by omega) (by decide)).mp z
      · intro z; rw [z]; rfl
    rw [swF, mpF, hb]
    by_cases q : mdB M S rc (mpF M S rc mo i).1 i = true
    · rw [if_pos q, if_pos q]
      exact ⟨t.sh (by omega) (by omega), by show (swF M od i).2 + 1 = (mpF M S rc mo i).2 + 1; rw [e]⟩
    · rw [if_neg q, if_neg q]
      exact ⟨t, e⟩
end TIE
