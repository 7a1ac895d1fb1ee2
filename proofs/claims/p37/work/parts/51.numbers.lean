/-! ===== p37: the class's numbers, in packets ===== -/
theorem sumN_le {f g : Nat → Nat} : ∀ n, (∀ i, i < n → f i ≤ g i) → sumN n f ≤ sumN n g
  | 0, _ => Nat.le_refl 0
  | n + 1, h => Nat.add_le_add (sumN_le n (fun i hi => h i (by omega))) (h n (by omega))
theorem sm3_le {F G : Nat → Nat → Nat → Nat} (h : ∀ a b c, a < 32 → b < 32 → c < 32 → F a b c ≤ G a b c) : sm3 F ≤ sm3 G := sumN_le 32 (fun a ha => sumN_le 32 (fun b hb => sumN_le 32 (fun c hc => h a b c ha hb hc)))
theorem cn3_le (P : Nat → Nat → Nat → Bool) : cn3 P ≤ 32768 := by rw [← cn3_flat P]; exact cntN_le _ _
theorem cn3_mono {P Q : Nat → Nat → Nat → Bool} (h : ∀ a b c, a < 32 → b < 32 → c < 32 → P a b c = true → Q a b c = true) : cn3 P ≤ cn3 Q := sm3_le (fun a b c ha hb hc => by
  cases e : P a b c with
  | false => exact Nat.zero_le _
  | true => rw [h a b c ha hb hc e]; exact Nat.le_refl _)
theorem cn3_tri (P Q : Nat → Nat → Nat → Bool) : cn3 P ≤ cn3 Q + cn3 (fun a b c => xor (P a b c) (Q a b c)) := by
  unfold cn3
  rw [← sm3_add]
  exact sm3_le (fun a b c _ _ _ => by
    show (P a b c).toNat ≤ (Q a b c).toNat + (xor (P a b c) (Q a b c)).toNat
    cases P a b c <;> cases Q a b c <;> decide)
theorem cn3_pos {P : Nat → Nat → Nat → Bool} {a b c : Nat} (ha : a < 32) (hb : b < 32) (hc : c < 32) (h : P a b c = true) : 1 ≤ cn3 P := by
  rw [← cn3_flat P]
  refine cnt_pos (i := a * 1024 + b * 32 + c) ?_ (by omega)
  show P ((a * 1024 + b * 32 + c) / 1024) ((a * 1024 + b * 32 + c) / 32 % 32) ((a * 1024 + b * 32 + c) % 32) = true
  rw [show (a * 1024 + b * 32 + c) / 1024 = a by omega, show (a * 1024 + b * 32 + c) / 32 % 32 = b by omega, show (a * 1024 + b * 32 + c) % 32 = c by omega]
  exact h
theorem cn3_0 {P : Nat → Nat → Nat → Bool} (h : cn3 P = 0) {a b c : Nat} (ha : a < 32) (hb : b < 32) (hc : c < 32) : P a b c = false := by
  cases e : P a b c with
  | false => rfl
  | true => have := cn3_pos ha hb hc e; omega
theorem cn3_ex {P : Nat → Nat → Nat → Bool} (h : cn3 P ≠ 0) : ∃ a b c, a < 32 ∧ b < 32 ∧ c < 32 ∧ P a b c = true := by
  by_cases q : ∃ a b c, a < 32 ∧ b < 32 ∧ c < 32 ∧ P a b c = true
  · exact q
  · refine absurd (cn3_zero (fun a b c ha hb hc => ?_)) h
    cases e : P a b c with
    | false => rfl
    | true => exact absurd ⟨a, b, c, ha, hb, hc, e⟩ q
theorem nI_z {n : Nat} (h : n ≤ 32768) : nI n = 0 ↔ n = 0 := by
  constructor
  · intro z; exact (nI_eq (b := 0) (by omega) (by decide)).mp z
  · intro z; rw [z]; rfl
/-- whether a packet is accepted; whether a position decides it -/
def dcA (M : pmM) (od : Nat → Nat) (rc a b c : Nat) : Bool := dcR (fun p => msP M od p a b c) (acP M od) 0 rc false
def dcD (M : pmM) (od : Nat → Nat) (p a b c : Nat) : Bool := msP M od p a b c && !anyB (fun q => msP M od q a b c) p
def deN (M : pmM) (od : Nat → Nat) (p : Nat) : Nat := cn3 (dcD M od p)
def acN (M : pmM) (od : Nat → Nat) (rc : Nat) : Nat := cn3 (dcA M od rc)
theorem de_nI (M : pmM) (od : Nat → Nat) {p : Nat} (hp : p ≤ 8) : deE M od p = nI (deN M od p) := de_cn3 M od hp
theorem deN_le (M : pmM) (od : Nat → Nat) (p : Nat) : deN M od p ≤ 32768 := cn3_le _
theorem acN_le (M : pmM) (od : Nat → Nat) (rc : Nat) : acN M od rc ≤ 32768 := cn3_le _
theorem ac_sum (M : pmM) (od : Nat → Nat) {rc : Nat} (h8 : rc ≤ 8) : ∀ n, n ≤ rc → acS M od n = nI (sm3 (fun a b c => sumN n (fun p => (msP M od p a b c && (xor (acP M od p) false && !anyB (fun j => msP M od j a b c) p)).toNat)))
  | 0, _ => by rw [show sm3 (fun a b c => sumN 0 (fun p => (msP M od p a b c && (xor (acP M od p) false && !anyB (fun j => msP M od j a b c) p)).toNat)) = 0 from sm3_zero]; rfl
  | n + 1, hn => by
    rw [acS, ac_sum M od h8 n (by omega)]
    show _ = nI (sm3 (fun a b c => sumN n (fun p => (msP M od p a b c && (xor (acP M od p) false && !anyB (fun j => msP M od j a b c) p)).toNat) + (msP M od n a b c && (xor (acP M od n) false && !anyB (fun j => msP M od j a b c) n)).toNat))
    rw [sm3_add]
    by_cases hc : M.1 (31 + 3 * od n) 1 = nI 97
    · rw [if_pos hc, de_cn3 M od (by omega), nI_add]
      refine congrArg nI (congrArg _ (sm3_congr (fun a b c _ _ _ => ?_)))
      rw [show acP M od n = true from decide_eq_true hc]
      rfl
    · rw [if_neg hc]
      have h0 : sm3 (fun a b c => (msP M od n a b c && (xor (acP M od n) false && !anyB (fun j => msP M od j a b c) n)).toNat) = 0 := by
        rw [sm3_congr (G := fun _ _ _ => 0) (fun a b c _ _ _ => ?_), sm3_zero]
        rw [show acP M od n = false from decide_eq_false hc]
        show (_ && (false && _)).toNat = 0
        rw [Bool.false_and, Bool.and_false]; rfl
      rw [h0, Nat.add_zero]
theorem ac_nI (M : pmM) (od : Nat → Nat) {rc : Nat} (h8 : rc ≤ 8) : acS M od rc = nI (acN M od rc) := by
  rw [ac_sum M od h8 rc (Nat.le_refl _)]
  refine congrArg nI (sm3_congr (fun a b c _ _ _ => ?_))
  have x2 := sum_first (fun p => msP M od p a b c) (acP M od) false rc 0
  rw [Bool.xor_false] at x2
  refine Eq.trans ?_ x2.symm
  refine sumN_congr rc (fun i _ => ?_)
  rw [Nat.zero_add, anyB_congr (f := fun j => msP M od (0 + j) a b c) (g := fun j => msP M od j a b c) i (fun j _ => by rw [Nat.zero_add])]
theorem one_first (q : Nat → Bool) : ∀ n, sumN n (fun p => (q p && !anyB q p).toNat) = (anyB q n).toNat
  | 0 => rfl
  | n + 1 => by
    rw [sumN, one_first q n, anyB]
    cases anyB q n <;> cases q n <;> rfl
theorem de_sum (M : pmM) (od : Nat → Nat) (rc : Nat) : sumN rc (deN M od) = cn3 (fun a b c => anyB (fun p => msP M od p a b c) rc) := by
  unfold deN cn3 dcD
  rw [← sm3_sum (fun p a b c => (msP M od p a b c && !anyB (fun q => msP M od q a b c) p).toNat) rc]
  exact sm3_congr (fun a b c _ _ _ => one_first (fun p => msP M od p a b c) rc)
theorem de_sum_le (M : pmM) (od : Nat → Nat) (rc : Nat) : sumN rc (deN M od) ≤ 32768 := by rw [de_sum]; exact cn3_le _
theorem ac_le_sum (M : pmM) (od : Nat → Nat) (rc : Nat) : acN M od rc ≤ sumN rc (deN M od) := by
  rw [de_sum]
  refine cn3_mono (fun a b c _ _ _ h => ?_)
  cases e : anyB (fun p => msP M od p a b c) rc with
  | true => rfl
  | false =>
    exfalso
    have : dcR (fun p => msP M od p a b c) (acP M od) 0 rc false = false := dcR_none rc 0 (fun i hi => by
      rw [Nat.zero_add]
      cases e2 : msP M od i a b c with
      | false => rfl
      | true => exact absurd ((anyB_iff _ rc).mpr ⟨i, hi, e2⟩) (by rw [e]; decide))
    unfold dcA at h
    rw [this] at h
    cases h
/-- matches, in packets -/
def maN (M : pmM) (j k : Nat) : Nat := cn3 (fun a b c => maF M j a b c && maF M k a b c)
theorem pb_nI (M : pmM) (j k : Nat) : pbE M j k = nI (maN M j k) := pb_cnt M j k
theorem de_le_ma (M : pmM) (od : Nat → Nat) (p : Nat) : deN M od p ≤ maN M (od p) (od p) := cn3_mono (fun a b c _ _ _ h => by
  have h1 := (Bool.and_eq_true _ _ ▸ h : msP M od p a b c = true ∧ _).1
  have h2 := (Bool.and_eq_true _ _ ▸ h1 : inF M od p = true ∧ maF M (od p) a b c = true).2
  rw [h2]; rfl)
theorem de_off {M : pmM} {od : Nat → Nat} {p : Nat} (h : inF M od p = false) : deN M od p = 0 := cn3_zero (fun a b c _ _ _ => by
  unfold dcD msP
  rw [h, Bool.false_and, Bool.false_and])
theorem td_de {M : pmM} {od : Nat → Nat} {rc : Nat} (hod : ∀ p, p < 8 → od p < 8) (h8 : rc ≤ 8) (hfo : ∀ p f, p < rc → f < 3 → fOk (M.1 (32 + 3 * od p) f)) {p : Nat} (hp : p < rc) : (tdM od rc (-1) (nI 0) M).1 (6 + p) p = nI (deN M od p) := by
  rw [td_val hod h8 hfo (by omega) (by omega), tl_sm3 M od h8 _ _ (by omega)]
  refine congrArg nI (sm3_congr (fun u v w _ _ _ => congrArg Bool.toNat ?_))
  have e : (fun p => thP M od (-1) (nI 0) p u v w) = fun p => msP M od p u v w := funext fun q => by
    unfold thP msP maF thF
    rw [if_neg (fun z => z.1 rfl), if_neg (fun z => z.1 rfl), if_neg (fun z => z.1 rfl)]
  rw [e]
  have e2 := fo_ifN (fun p => msP M od p u v w) h8 hp
  rw [show decide (fo (ifN (fun p => msP M od p u v w) rc) = p ∧ fo (ifN (fun p => msP M od p u v w) rc) = p) = decide (fo (ifN (fun p => msP M od p u v w) rc) = p) by rw [decide_eq_decide]; exact ⟨fun z => z.1, fun z => ⟨z, z⟩⟩, e2]
  rfl
/-! changes of the order -/
theorem sg_lt {fr to p n : Nat} (h1 : fr < n) (h2 : to < n) (hp : p < n) : sgO fr to p < n := by
  show (if p = to then fr else if fr ≤ p ∧ p < to then p + 1 else if to < p ∧ p ≤ fr then p - 1 else p) < n
  repeat' split
  all_goals omega
theorem ms_sh (M : pmM) (od : Nat → Nat) (fr to p a b c : Nat) : msP M (shO od fr to) p a b c = msP M od (sgO fr to p) a b c := by
  unfold msP inF
  rw [shO_sg]
theorem ac_sh (M : pmM) (od : Nat → Nat) (fr to p : Nat) : acP M (shO od fr to) p = acP M od (sgO fr to p) := by
  unfold acP
  rw [shO_sg]
def hcA (M : pmM) (od : Nat → Nat) (rc : Nat) : Prop := ∀ p, p < rc → M.1 (31 + 3 * od p) 1 = nI 97 ∨ M.1 (31 + 3 * od p) 1 = nI 100
theorem dc_sh (M : pmM) (od : Nat → Nat) (rc fr to a b c : Nat) : dcA M (shO od fr to) rc a b c = dcR (fun p => msP M od (sgO fr to p) a b c) (fun p => acP M od (sgO fr to p)) 0 rc false := by
  unfold dcA
  rw [show (fun p => msP M (shO od fr to) p a b c) = fun p => msP M od (sgO fr to p) a b c from funext fun p => ms_sh M od fr to p a b c, show acP M (shO od fr to) = fun p => acP M od (sgO fr to p) from funext fun p => ac_sh M od fr to p]
theorem ch_nI {M : pmM} {od : Nat → Nat} {rc : Nat} (hac : hcA M od rc) (h8 : rc ≤ 8) {fr to : Nat} (h1 : fr < rc) (h2 : to < rc) : chE M od fr to = nI (cn3 (fun a b c => xor (dcA M od rc a b c) (dcA M (shO od fr to) rc a b c))) := by
  unfold cn3
  rw [sm3_congr (G := fun a b c => (xor (dcR (fun p => msP M od p a b c) (acP M od) 0 rc false) (dcR (fun p => msP M od (sgO fr to p) a b c) (fun p => acP M od (sgO fr to p)) 0 rc false)).toNat) (fun a b c _ _ _ => by
    show (xor (dcA M od rc a b c) (dcA M (shO od fr to) rc a b c)).toNat = _
    rw [dc_sh]; rfl)]
  unfold chE
  by_cases hlt : to < fr
  · rw [if_pos hlt, ca_sum M od (by omega) (by omega) (fun p hp => hac p (by omega)), sm3_congr (fun a b c _ _ _ => mv_up (fun p => msP M od p a b c) (acP M od) hlt h1)]
  · rw [if_neg hlt, ca_sum M od (by omega) (by omega) (fun p hp => hac p (by omega)), sm3_congr (fun a b c _ _ _ => mv_dn (fun p => msP M od p a b c) (acP M od) (Nat.not_lt.mp hlt) h2), show to + 1 - (fr + 1) = to - fr by omega]
theorem ch_zero {M : pmM} {od : Nat → Nat} {rc : Nat} (hac : hcA M od rc) (h8 : rc ≤ 8) {fr to : Nat} (h1 : fr < rc) (h2 : to < rc) (hz : chE M od fr to = 0) {a b c : Nat} (ha : a < 32) (hb : b < 32) (hc : c < 32) : dcA M (shO od fr to) rc a b c = dcA M od rc a b c := by
  rw [ch_nI hac h8 h1 h2] at hz
  have h0 := cn3_0 ((nI_z (cn3_le _)).mp hz) ha hb hc
  revert h0
  cases dcA M od rc a b c <;> cases dcA M (shO od fr to) rc a b c <;> decide
theorem ch_self (M : pmM) (od : Nat → Nat) (p : Nat) : chE M od p p = nI 0 := by
  unfold chE
  rw [if_neg (Nat.lt_irrefl _)]
  unfold caE
  rw [Nat.sub_self]
  split <;> rfl
theorem cr_nI {M : pmM} {od : Nat → Nat} {rc : Nat} (hac : hcA M od rc) (h8 : rc ≤ 8) {p : Nat} (hp : p < rc) : crE M od rc p = nI (cn3 (fun a b c => xor (dcA M od rc a b c) (dcA M (shO od p (rc - 1)) (rc - 1) a b c))) := by
  have e1 : ∀ a b c, (xor (dcA M od rc a b c) (dcA M (shO od p (rc - 1)) (rc - 1) a b c)).toNat = sumN (rc - (p + 1)) (fun i => (mvT (fun p => msP M od p a b c) (acP M od) p (p + 1 + i)).toNat) + (msP M od p a b c && (acP M od p && !anyB (fun i => !decide (i = p) && msP M od i a b c) rc)).toNat := fun a b c => by
    rw [← mv_rm (fun p => msP M od p a b c) (acP M od) hp, dc_sh]
    have x3 : dcR (fun q => msP M od (sgO p (rc - 1) q) a b c) (fun q => acP M od (sgO p (rc - 1) q)) 0 (rc - 1) false = dcR (fun i => if p ≤ i then msP M od (i + 1) a b c else msP M od i a b c) (fun i => if p ≤ i then acP M od (i + 1) else acP M od i) 0 (rc - 1) false := dcR_congr (rc - 1) 0 0 (fun i hi => by
      rw [Nat.zero_add]
      by_cases q : p ≤ i
      · rw [sg_dn q hi]
        simp only [if_pos q]; exact ⟨trivial, trivial⟩
      · rw [sg_lo (by omega) hi]
        simp only [if_neg q]; exact ⟨trivial, trivial⟩)
    rw [x3]
    rfl
  unfold cn3
  rw [sm3_congr (fun a b c _ _ _ => e1 a b c), sm3_add, ← nI_add, ← ca_sum M od (by omega) h8 (fun q hq => hac q (by omega))]
  unfold crE
  by_cases hc : M.1 (31 + 3 * od p) 1 = nI 97 ∧ inF M od p = true
  · rw [if_pos hc, lb_cnt M od _ _ (clr_lt (ifN_256 _ h8))]
    refine congrArg (fun z => caE M od p (p + 1) rc + nI z) (cn3_congr (fun a b c _ _ _ => ?_))
    rw [noM_clr2 M od h8 (by omega), show msP M od p a b c = maF M (od p) a b c by unfold msP; rw [hc.2]; rfl, show acP M od p = true from decide_eq_true hc.1]
    cases maF M (od p) a b c <;> rfl
  · rw [if_neg hc]
    have h0 : sm3 (fun a b c => (msP M od p a b c && (acP M od p && !anyB (fun i => !decide (i = p) && msP M od i a b c) rc)).toNat) = 0 := by
      rw [sm3_congr (G := fun _ _ _ => 0) (fun a b c _ _ _ => ?_), sm3_zero]
      by_cases hi : inF M od p = true
      · have ha : acP M od p = false := decide_eq_false (fun z => hc ⟨z, hi⟩)
        rw [ha, Bool.false_and, Bool.and_false]; rfl
      · rw [show msP M od p a b c = false by unfold msP; rw [Bool.not_eq_true _ |>.mp hi, Bool.false_and], Bool.false_and]; rfl
    rw [h0, nI_0, Int32.add_zero]
/-! a further range -/
def dcT (M : pmM) (od : Nat → Nat) (rc : Nat) (ob fv : Int32) (a b c : Nat) : Bool := dcR (fun p => thP M od ob fv p a b c) (acP M od) 0 rc false
theorem rg_nI {M : pmM} {od : Nat → Nat} {rc : Nat} {ob fv : Int32} (hac : hcA M od rc) (hod : ∀ p, p < 8 → od p < 8) (h8 : rc ≤ 8) (hfo : ∀ p f, p < rc → f < 3 → fOk (M.1 (32 + 3 * od p) f)) : crR M (tdM od rc ob fv M) od rc 9 = nI (cn3 (fun a b c => xor (dcA M od rc a b c) (dcT M od rc ob fv a b c))) := by
  rw [crR_sum _ (fun a b => tlN (mkN M od rc 0 ob fv) (mkN M od rc 1 ob fv) (mkN M od rc 2 ob fv) a b) (fun a b ha hb => td_val hod h8 hfo ha hb) 9 (Nat.le_refl _)]
  refine congrArg nI ?_
  have e1 : ∀ a b, (if acF M od rc a = acF M od rc b then 0 else tlN (mkN M od rc 0 ob fv) (mkN M od rc 1 ob fv) (mkN M od rc 2 ob fv) a b) = sm3 (fun u v w => if acF M od rc a = acF M od rc b then 0 else (decide (fo (ifN (fun p => msP M od p u v w) rc) = a ∧ fo (ifN (fun p => thP M od ob fv p u v w) rc) = b)).toNat) := fun a b => by
    by_cases q : acF M od rc a = acF M od rc b
    · simp only [if_pos q]; exact sm3_zero.symm
    · simp only [if_neg q]
      exact tl_sm3 M od h8 ob fv (fun z => q (by rw [z.1, z.2]))
  unfold rgC
  rw [sumN_congr (h := fun a => sm3 (fun u v w => sumN 9 (fun b => if acF M od rc a = acF M od rc b then 0 else (decide (fo (ifN (fun p => msP M od p u v w) rc) = a ∧ fo (ifN (fun p => thP M od ob fv p u v w) rc) = b)).toNat))) 9 (fun a _ => by rw [sm3_sum]; exact sumN_congr 9 (fun b _ => e1 a b)), ← sm3_sum]
  refine sm3_congr (fun u v w hu hv hw => ?_)
  obtain ⟨y1, y2⟩ := acF_dc (M := M) (od := od) hac h8 (fun p => msP M od p u v w)
  obtain ⟨z1, z2⟩ := acF_dc (M := M) (od := od) hac h8 (fun p => thP M od ob fv p u v w)
  have hA := fo_le (ifN (fun p => msP M od p u v w) rc)
  have hB := fo_le (ifN (fun p => thP M od ob fv p u v w) rc)
  show _ = (xor (dcR (fun p => msP M od p u v w) (acP M od) 0 rc false) (dcR (fun p => thP M od ob fv p u v w) (acP M od) 0 rc false)).toNat
  rw [← y1, ← z1]
  generalize fo (ifN (fun p => msP M od p u v w) rc) = A at y2 hA ⊢
  generalize fo (ifN (fun p => thP M od ob fv p u v w) rc) = B at z2 hB ⊢
  have g1 : ∀ a, sumN 9 (fun b => if acF M od rc a = acF M od rc b then 0 else (decide (A = a ∧ B = b)).toNat) = if a = A then (if acF M od rc a = acF M od rc B then 0 else 1) else 0 := fun a => by
    by_cases qa : a = A
    · subst qa
      rw [if_pos rfl, sumN_congr (h := fun b => if b = B then (if acF M od rc a = acF M od rc b then 0 else 1) else 0) 9 (fun b _ => ?_), sum_one (fun b => if acF M od rc a = acF M od rc b then 0 else 1) B 9, if_pos (by omega)]
      by_cases qb : b = B
      · subst qb; rw [if_pos rfl, decide_eq_true ⟨rfl, rfl⟩]; rfl
      · rw [if_neg qb, decide_eq_false (fun z => qb z.2.symm)]; split <;> rfl
    · rw [if_neg qa]
      exact sumN_0 9 (fun b _ => by rw [decide_eq_false (fun z => qa z.1.symm)]; split <;> rfl)
  rw [sumN_congr 9 (fun a _ => g1 a), sum_one (fun a => if acF M od rc a = acF M od rc B then 0 else 1) A 9, if_pos (by omega)]
  rcases y2 with y | y <;> rcases z2 with z | z <;> rw [y, z] <;> decide
/-! the order by hits -/
theorem sw_zero (M : pmM) (od : Nat → Nat) : ∀ n, (swF M od n).2 = 0 → (swF M od n).1 = od
  | 0, _ => rfl
  | n + 1, h => by
    rw [swF] at h ⊢
    by_cases q : swB M (swF M od n).1 n = true
    · rw [if_pos q] at h
      exact absurd h (Nat.succ_ne_zero _)
    · rw [if_neg q] at h ⊢
      exact sw_zero M od n h
theorem so_fix {M : pmM} {rc : Nat} : ∀ (n : Nat) (od : Nat → Nat) (s : Nat), ivN (hiP M od) rc < n → (swF M (soF M rc n od s).1 (rc - 1)).2 = 0
  | 0, _, _, h => absurd h (Nat.not_lt_zero _)
  | n + 1, od, s, h => by
    have iv := sw_iv (M := M) (rc := rc) od (rc - 1) (by omega)
    rw [soF]
    by_cases hz : (swF M od (rc - 1)).2 = 0
    · rw [if_pos hz]
      show (swF M (swF M od (rc - 1)).1 (rc - 1)).2 = 0
      rw [sw_zero M od _ hz]
      exact hz
    · rw [if_neg hz]
      exact so_fix n _ _ (by omega)
theorem so_none {M : pmM} {rc : Nat} {od : Nat → Nat} (h : (swF M od (rc - 1)).2 = 0) (n s : Nat) : soF M rc (n + 1) od s = (od, s) := by
  rw [soF, if_pos h, sw_zero M od _ h]
theorem so_1 {M M' : pmM} (h : M'.1 = M.1) (rc : Nat) : ∀ (n : Nat) (od : Nat → Nat) (s : Nat), soF M' rc n od s = soF M rc n od s
  | 0, _, _ => rfl
  | n + 1, od, s => by
    rw [soF, soF, swF_1 h]
    by_cases hz : (swF M od (rc - 1)).2 = 0
    · rw [if_pos hz, if_pos hz]
    · rw [if_neg hz, if_neg hz, so_1 h rc n]
theorem sw_keep {M : pmM} {rc : Nat} (Φ : (Nat → Nat) → Prop) (hΦ : ∀ od i, i + 1 < rc → chE M od i (i + 1) = 0 → Φ od → Φ (shO od i (i + 1))) {od : Nat → Nat} (h0 : Φ od) : ∀ i, i ≤ rc - 1 → Φ (swF M od i).1
  | 0, _ => h0
  | i + 1, hi => by
    have ih := sw_keep Φ hΦ h0 i (by omega)
    rw [swF]
    by_cases q : swB M (swF M od i).1 i = true
    · rw [if_pos q]
      have q2 := q
      unfold swB at q2
      exact hΦ _ _ (by omega) (of_decide_eq_true (Bool.and_eq_true _ _ ▸ q2 : _ ∧ _).2) ih
    · rw [if_neg q]; exact ih
theorem so_keep {M : pmM} {rc : Nat} (Φ : (Nat → Nat) → Prop) (hΦ : ∀ od i, i + 1 < rc → chE M od i (i + 1) = 0 → Φ od → Φ (shO od i (i + 1))) : ∀ (n : Nat) (od : Nat → Nat) (s : Nat), Φ od → Φ (soF M rc n od s).1
  | 0, _, _, h => h
  | n + 1, od, s, h => by
    have h2 := sw_keep Φ hΦ h (rc - 1) (Nat.le_refl _)
    rw [soF]
    by_cases hz : (swF M od (rc - 1)).2 = 0
    · rw [if_pos hz]; exact h2
    · rw [if_neg hz]; exact so_keep Φ hΦ n _ _ h2
/-! the main shadow -/
theorem ms_ex (M : pmM) (od : Nat → Nat) (p : Nat) : ∀ n, ∃ k, k ≤ 32768 ∧ (msF M od p n).1 = nI k ∧ (k ≠ 0 → ∃ q, q < n ∧ inF M od q = true ∧ (msF M od p n).2 = M.1 (31 + 3 * od q) 0) ∧ ∀ q, q < n → inF M od q = true → maN M (od q) (od p) ≤ k
  | 0 => ⟨0, by decide, rfl, fun h => absurd rfl h, fun q hq => absurd hq (Nat.not_lt_zero q)⟩
  | n + 1 => by
    obtain ⟨k, k1, k2, k3, k4⟩ := ms_ex M od p n
    have hm : maN M (od n) (od p) ≤ 32768 := cn3_le _
    rw [msF, k2, pb_nI]
    by_cases q : inF M od n = true ∧ nI k < nI (maN M (od n) (od p))
    · have hlt := (nI_ltI (by omega) (by omega)).mp q.2
      rw [if_pos q]
      refine ⟨_, hm, rfl, fun _ => ⟨n, by omega, q.1, rfl⟩, fun r hr hi => ?_⟩
      by_cases e : r = n
      · rw [e]; exact Nat.le_refl _
      · have := k4 r (by omega) hi
        omega
    · rw [if_neg q]
      refine ⟨k, k1, k2, fun h => ?_, fun r hr hi => ?_⟩
      · obtain ⟨r, r1, r2⟩ := k3 h
        exact ⟨r, by omega, r2⟩
      · by_cases e : r = n
        · subst e
          by_cases z : maN M (od r) (od p) ≤ k
          · exact z
          · exact absurd ⟨hi, (nI_ltI (by omega) (by omega)).mpr (by omega)⟩ q
        · exact k4 r (by omega) hi
/-- a shadowed rule that matches has a main shadow -/
theorem sh_ma {M : pmM} {od : Nat → Nat} {p : Nat} (hi : inF M od p = true) (hd : deN M od p = 0) (hm : maN M (od p) (od p) ≠ 0) : ∃ q, q < p ∧ inF M od q = true ∧ maN M (od q) (od p) ≠ 0 := by
  obtain ⟨a, b, c, ha, hb, hc, h⟩ := cn3_ex hm
  have h1 : maF M (od p) a b c = true := (Bool.and_eq_true _ _ ▸ h : _ ∧ _).1
  have h2 := cn3_0 hd ha hb hc
  unfold dcD msP at h2
  rw [hi, h1] at h2
  have h3 : anyB (fun q => inF M od q && maF M (od q) a b c) p = true := by
    revert h2
    cases anyB (fun q => inF M od q && maF M (od q) a b c) p <;> decide
  obtain ⟨q, hq, hq2⟩ := (anyB_iff _ p).mp h3
  obtain ⟨g1, g2⟩ := (Bool.and_eq_true _ _ ▸ hq2 : inF M od q = true ∧ maF M (od q) a b c = true)
  refine ⟨q, hq, g1, ?_⟩
  have := cn3_pos (P := fun a b c => maF M (od q) a b c && maF M (od p) a b c) ha hb hc (by show (_ && _) = true; rw [g2, h1]; rfl)
  unfold maN
  omega
/-- who decides a packet decides something -/
theorem de_pos {M : pmM} {od : Nat → Nat} {p a b c : Nat} (ha : a < 32) (hb : b < 32) (hc : c < 32) (h : inF M od p = true ∧ maF M (od p) a b c = true) (hn : ∀ q, q < p → ¬ (inF M od q = true ∧ maF M (od q) a b c = true)) : deN M od p ≠ 0 := by
  have := cn3_pos (P := dcD M od p) ha hb hc (by
    unfold dcD msP
    rw [h.1, h.2]
    cases e : anyB (fun q => inF M od q && maF M (od q) a b c) p with
    | false => rfl
    | true =>
      obtain ⟨q, hq, hq2⟩ := (anyB_iff _ p).mp e
      exact absurd (Bool.and_eq_true _ _ ▸ hq2 : inF M od q = true ∧ maF M (od q) a b c = true) (hn q hq))
  unfold deN
  omega
theorem sh_nI (M : pmM) (od : Nat → Nat) {p : Nat} (hp : p ≤ 8) : shF M od p = (inF M od p && decide (deN M od p = 0)) := by
  unfold shF
  rw [de_nI M od hp]
  congr 1
  rw [decide_eq_decide]
  exact nI_z (deN_le M od p)
