/-! ===== FilterRules: the order is shifted, what matches is brought up to date ===== -/
def shO (od : Nat → Nat) (fr to p : Nat) : Nat := if p = to then od fr else if fr ≤ p ∧ p < to then od (p + 1) else if to < p ∧ p ≤ fr then od (p - 1) else od p
def shU (od : Nat → Nat) (fr i p : Nat) : Nat := if fr ≤ p ∧ p < i then od (p + 1) else od p
def shD (od : Nat → Nat) (fr i p : Nat) : Nat := if i < p ∧ p ≤ fr then od (p - 1) else od p
def odM (M : pmM) (od : Nat → Nat) : pmM := (M.1, mrC od, M.2.2)
theorem odM_self {M : pmM} {od : Nat → Nat} (hmr : M.2.1 = mrC od) : M = odM M od := by
  obtain ⟨a, b, c⟩ := M
  exact congrArg (fun z => (a, z, c)) hmr
theorem odM_up {M : pmM} {od od' : Nat → Nat} {p j : Nat} (h : ∀ q, (if q = p then j else od q) = od' q) : ((odM M od).1, pm2 (odM M od).2.1 2 p (some (31 + 3 * j)), (odM M od).2.2) = odM M od' := by
  show (M.1, pm2 (mrC od) 2 p (some (31 + 3 * j)), M.2.2) = (M.1, mrC od', M.2.2)
  rw [mr_up, funext h]
theorem s_shift {l : Launch} (hf : l.stackTraces = false) {M : pmM} {od : Nat → Nat} (hmr : M.2.1 = mrC od) (hod : ∀ p, p < 8 → od p < 8) {fr to : Nat} (h1 : fr < 8) (h2 : to < 8) : Sp l kX3_shift 64 1 0 0 [.ref 0, .int (nI fr), .int (nI to)] M (.inl none) (odM M (shO od fr to)) := by
  refine sp_of hf (by decide +kernel) (Nat.le_of_ble_eq_true rfl) (by intro v hv; simp at hv; rcases hv with rfl | rfl | rfl <;> rfl) rfl ?_
  have M0 := odM_self hmr
  by_cases hle : fr ≤ to
  · refine e_aload_0 dX3_shift_0 rfl ?_
    refine e_getR dX3_shift_1 rfl lkX3_17 rfl ps_0 (by decide) (by decide) (mr_of hmr rfl) ?_
    refine e_iload_1 dX3_shift_4 rfl ?_
    refine e_aald dX3_shift_5 rfl ps_2 (by decide) (by decide) (by decide) rfl (by omega) (mr_of hmr (mr_order _ _)) ?_
    refine e_astore_3 dX3_shift_6 rfl (Nat.le_of_ble_eq_true rfl) rfl ?_
    refine e_iload_1 dX3_shift_7 rfl ?_
    refine e_istore_4 dX3_shift_8 rfl (Nat.le_of_ble_eq_true rfl) rfl ?_
    refine e_mem (M1 := odM M (shU od fr (fr + 0))) (M0.trans (congrArg (odM M) (funext fun p => (if_neg (by omega)).symm))) ?_
    refine loop_up (P := fun i => Ev l kX3_shift (gM 64 0 0 (.inl none) (odM M (shO od fr to))) (rmd 1 0 0) 64 0 0 10 [some (.ref 0), some (.int (nI fr)), some (.int (nI to)), some (.ref (31 + 3 * od fr)), some (.int (nI (fr + i)))] [] (odM M (shU od fr (fr + i)))) ?_ (fun i hi ih => ?_) 0 (Nat.zero_le (to - fr))
    · refine e_iload_4 dX3_shift_10 rfl ?_
      refine e_iload_2 dX3_shift_12 rfl ?_
      refine e_nc_ge_t (tgt := 38) dX3_shift_13 (by decide) (by omega) (by omega) (by omega) ?_
      refine e_iload_1 dX3_shift_38 rfl ?_
      refine e_istore_4 dX3_shift_39 rfl (Nat.le_of_ble_eq_true rfl) rfl ?_
      refine e_iload_4 dX3_shift_41 rfl ?_
      refine e_iload_2 dX3_shift_43 rfl ?_
      refine e_nc_le_t (tgt := 69) dX3_shift_44 (by decide) (by omega) (by omega) (by omega) ?_
      refine e_aload_0 dX3_shift_69 rfl ?_
      refine e_getR dX3_shift_70 rfl lkX3_17 rfl ps_0 (by decide) (by decide) (mr_of rfl rfl) ?_
      refine e_iload_2 dX3_shift_73 rfl ?_
      refine e_aload_3 dX3_shift_74 rfl ?_
      refine e_aast dX3_shift_75 rfl ps_2 (Or.inr (Or.inl ⟨rfl, rfl⟩)) (by decide) rfl (by omega) (ps_R (hod _ h1)) (lt_RU (hod _ h1)) ?_
      exact e_vret dX3_shift_76 rfl (Nat.le_of_ble_eq_true rfl) (Nat.le_of_ble_eq_true rfl) (odM_up (fun q => by
        unfold shU shO
        by_cases e1 : q = to
        · rw [if_pos e1, if_pos e1]
        · rw [if_neg e1, if_neg e1]
          by_cases e2 : fr ≤ q ∧ q < to
          · rw [if_pos e2, if_pos (by omega)]
          · rw [if_neg e2, if_neg (by omega), if_neg (by omega)]))
    · have e1 : shU od fr (fr + i) (fr + i + 1) = od (fr + i + 1) := if_neg (by omega)
      refine e_iload_4 dX3_shift_10 rfl ?_
      refine e_iload_2 dX3_shift_12 rfl ?_
      refine e_nc_ge_f dX3_shift_13 rfl ⟨38, by decide⟩ (by omega) (by omega) (by omega) ?_
      refine e_aload_0 dX3_shift_16 rfl ?_
      refine e_getR dX3_shift_17 rfl lkX3_17 rfl ps_0 (by decide) (by decide) (mr_of rfl rfl) ?_
      refine e_iload_4 dX3_shift_20 rfl ?_
      refine e_aload_0 dX3_shift_22 rfl ?_
      refine e_getR dX3_shift_23 rfl lkX3_17 rfl ps_0 (by decide) (by decide) (mr_of rfl rfl) ?_
      refine e_iload_4 dX3_shift_26 rfl ?_
      refine e_iconst (v := nI 1) dX3_shift_28 rfl ic_1 ?_
      refine e_iadd dX3_shift_29 rfl ?_
      refine e_topi (nI (fr + i + 1)) (nI_add _ _) ?_
      refine e_aald dX3_shift_30 rfl ps_2 (by decide) (by decide) (by decide) rfl (by omega) (mr_of rfl (mr_order _ _)) ?_
      refine e_aast dX3_shift_31 rfl ps_2 (Or.inr (Or.inl ⟨rfl, rfl⟩)) (by decide) rfl (by omega) (ps_R (by rw [e1]; exact hod _ (by omega))) (lt_RU (by rw [e1]; exact hod _ (by omega))) ?_
      refine e_iinc_4 (v := nI (fr + i + 1)) dX3_shift_32 rfl (Nat.le_of_ble_eq_true rfl) rfl (nI_1 (fr + i)) ?_
      refine e_goto (tgt := 10) dX3_shift_35 (by decide) ?_
      refine e_mem (odM_up (od' := shU od fr (fr + (i + 1))) (fun q => ?_)) ih
      rw [e1]; unfold shU
      by_cases e2 : q = fr + i
      · rw [if_pos e2, if_pos (by omega), e2]
      · rw [if_neg e2]
        by_cases e3 : fr ≤ q ∧ q < fr + i
        · rw [if_pos e3, if_pos (by omega)]
        · rw [if_neg e3, if_neg (by omega)]
  · refine e_aload_0 dX3_shift_0 rfl ?_
    refine e_getR dX3_shift_1 rfl lkX3_17 rfl ps_0 (by decide) (by decide) (mr_of hmr rfl) ?_
    refine e_iload_1 dX3_shift_4 rfl ?_
    refine e_aald dX3_shift_5 rfl ps_2 (by decide) (by decide) (by decide) rfl (by omega) (mr_of hmr (mr_order _ _)) ?_
    refine e_astore_3 dX3_shift_6 rfl (Nat.le_of_ble_eq_true rfl) rfl ?_
    refine e_iload_1 dX3_shift_7 rfl ?_
    refine e_istore_4 dX3_shift_8 rfl (Nat.le_of_ble_eq_true rfl) rfl ?_
    refine e_iload_4 dX3_shift_10 rfl ?_
    refine e_iload_2 dX3_shift_12 rfl ?_
    refine e_nc_ge_t (tgt := 38) dX3_shift_13 (by decide) (by omega) (by omega) (by omega) ?_
    refine e_iload_1 dX3_shift_38 rfl ?_
    refine e_istore_4 dX3_shift_39 rfl (Nat.le_of_ble_eq_true rfl) rfl ?_
    refine e_mem (M1 := odM M (shD od fr (fr - 0))) (M0.trans (congrArg (odM M) (funext fun p => (if_neg (by omega)).symm))) ?_
    refine loop_up (P := fun i => Ev l kX3_shift (gM 64 0 0 (.inl none) (odM M (shO od fr to))) (rmd 1 0 0) 64 0 0 41 [some (.ref 0), some (.int (nI fr)), some (.int (nI to)), some (.ref (31 + 3 * od fr)), some (.int (nI (fr - i)))] [] (odM M (shD od fr (fr - i)))) ?_ (fun i hi ih => ?_) 0 (Nat.zero_le (fr - to))
    · refine e_iload_4 dX3_shift_41 rfl ?_
      refine e_iload_2 dX3_shift_43 rfl ?_
      refine e_nc_le_t (tgt := 69) dX3_shift_44 (by decide) (by omega) (by omega) (by omega) ?_
      refine e_aload_0 dX3_shift_69 rfl ?_
      refine e_getR dX3_shift_70 rfl lkX3_17 rfl ps_0 (by decide) (by decide) (mr_of rfl rfl) ?_
      refine e_iload_2 dX3_shift_73 rfl ?_
      refine e_aload_3 dX3_shift_74 rfl ?_
      refine e_aast dX3_shift_75 rfl ps_2 (Or.inr (Or.inl ⟨rfl, rfl⟩)) (by decide) rfl (by omega) (ps_R (hod _ h1)) (lt_RU (hod _ h1)) ?_
      exact e_vret dX3_shift_76 rfl (Nat.le_of_ble_eq_true rfl) (Nat.le_of_ble_eq_true rfl) (odM_up (fun q => by
        unfold shD shO
        by_cases e1 : q = to
        · rw [if_pos e1, if_pos e1]
        · rw [if_neg e1, if_neg e1, if_neg (show ¬ (fr ≤ q ∧ q < to) by omega)]
          by_cases e2 : to < q ∧ q ≤ fr
          · rw [if_pos e2, if_pos (by omega)]
          · rw [if_neg e2, if_neg (by omega)]))
    · have e1 : shD od fr (fr - i) (fr - i - 1) = od (fr - i - 1) := if_neg (by omega)
      refine e_iload_4 dX3_shift_41 rfl ?_
      refine e_iload_2 dX3_shift_43 rfl ?_
      refine e_nc_le_f dX3_shift_44 rfl ⟨69, by decide⟩ (by omega) (by omega) (by omega) ?_
      refine e_aload_0 dX3_shift_47 rfl ?_
      refine e_getR dX3_shift_48 rfl lkX3_17 rfl ps_0 (by decide) (by decide) (mr_of rfl rfl) ?_
      refine e_iload_4 dX3_shift_51 rfl ?_
      refine e_aload_0 dX3_shift_53 rfl ?_
      refine e_getR dX3_shift_54 rfl lkX3_17 rfl ps_0 (by decide) (by decide) (mr_of rfl rfl) ?_
      refine e_iload_4 dX3_shift_57 rfl ?_
      refine e_iconst (v := nI 1) dX3_shift_59 rfl ic_1 ?_
      refine e_isub dX3_shift_60 rfl ?_
      refine e_topi (nI (fr - i - 1)) (pk_sub (by omega)) ?_
      refine e_aald dX3_shift_61 rfl ps_2 (by decide) (by decide) (by decide) rfl (by omega) (mr_of rfl (mr_order _ _)) ?_
      refine e_aast dX3_shift_62 rfl ps_2 (Or.inr (Or.inl ⟨rfl, rfl⟩)) (by decide) rfl (by omega) (ps_R (by rw [e1]; exact hod _ (by omega))) (lt_RU (by rw [e1]; exact hod _ (by omega))) ?_
      refine e_iinc_4 (v := nI (fr - (i + 1))) dX3_shift_63 rfl (Nat.le_of_ble_eq_true rfl) rfl (by rw [show fr - i = (fr - (i + 1)) + 1 by omega]; exact pk_m1 _) ?_
      refine e_goto (tgt := 41) dX3_shift_66 (by decide) ?_
      refine e_mem (odM_up (od' := shD od fr (fr - (i + 1))) (fun q => ?_)) ih
      rw [e1]; unfold shD
      by_cases e2 : q = fr - i
      · rw [if_pos e2, if_pos (by omega), e2]
      · rw [if_neg e2]
        by_cases e3 : fr - i < q ∧ q ≤ fr
        · rw [if_pos e3, if_pos (by omega)]
        · rw [if_neg e3, if_neg (by omega)]
/-- what matches, brought up to date: the rules ahead of p whole, the one at p in the fields below f -/
def umB (od : Nat → Nat) (p f a k : Nat) : Bool := (anyB (fun q => a == 33 + 3 * od q) p && decide (k < 3)) || (a == 33 + 3 * od p && decide (k < f))
def umP (M : pmM) (od rg : Nat → Nat) (p f : Nat) : pmM := (fun a k => if umB od p f a k = true then mtv M rg (M.1 (a - 1) k) else M.1 a k, M.2)
def umM (M : pmM) (od rg : Nat → Nat) (rc : Nat) : pmM := (fun a k => if (anyB (fun q => a == 33 + 3 * od q) rc && decide (k < 3)) = true then mtv M rg (M.1 (a - 1) k) else M.1 a k, M.2)
theorem umB_no {od : Nat → Nat} {p f a k : Nat} (h : ∀ q, a ≠ 33 + 3 * od q) : umB od p f a k = false := by
  have h1 : anyB (fun q => a == 33 + 3 * od q) p = false := by
    cases hb : anyB (fun q => a == 33 + 3 * od q) p with
    | false => rfl
    | true =>
      obtain ⟨i, -, hi⟩ := (anyB_iff _ _).mp hb
      exact absurd (beq_iff_eq.mp hi) (h i)
  simp [umB, h1, h p]
theorem umP_no (M : pmM) {od rg : Nat → Nat} {p f a k : Nat} (h : ∀ q, a ≠ 33 + 3 * od q) : (umP M od rg p f).1 a k = M.1 a k := by
  show (if umB od p f a k = true then _ else _) = _
  rw [umB_no h, if_neg (by decide)]
theorem voF_congr {M M' : pmM} {rg : Nat → Nat} (h : ∀ a k, a < 31 → M'.1 a k = M.1 a k) : ∀ (f o : Nat), o < 8 → voF M' rg f o = voF M rg f o
  | 0, _, _ => rfl
  | f + 1, o, ho => by
    have h1 : M'.1 (16 + 2 * o) = M.1 (16 + 2 * o) := funext fun k => h _ k (by omega)
    have h2 : ∀ n, n ≤ 8 → orIf (hasb (M'.1 (15 + 2 * o) 2)) (voF M' rg f) (orN (M'.1 (16 + 2 * o)) (rg o)) n = orIf (hasb (M.1 (15 + 2 * o) 2)) (voF M rg f) (orN (M.1 (16 + 2 * o)) (rg o)) n := by
      intro n
      induction n with
      | zero => intro _; show orN _ _ = orN _ _; rw [h1]
      | succ n ih =>
        intro hn
        rw [orIf, orIf, ih (by omega), h _ _ (show 15 + 2 * o < 31 by omega), voF_congr h f n (by omega)]
    exact h2 8 (Nat.le_refl 8)
theorem umP_0 (M : pmM) (od rg : Nat → Nat) : M = umP M od rg 0 0 := pm_ext fun a k => (if_neg (by simp [umB, anyB])).symm
theorem umP_up (M : pmM) (od rg : Nat → Nat) (p : Nat) : umP M od rg p 3 = umP M od rg (p + 1) 0 := by
  refine pm_ext fun a k => ?_
  have e : umB od p 3 a k = umB od (p + 1) 0 a k := by
    unfold umB
    rw [anyB, show decide (k < 0) = false from rfl, Bool.and_false, Bool.or_false]
    cases anyB (fun q => a == 33 + 3 * od q) p <;> cases (a == 33 + 3 * od p) <;> cases decide (k < 3) <;> rfl
  show (if umB od p 3 a k = true then _ else _) = _
  rw [e]
theorem umP_end (M : pmM) (od rg : Nat → Nat) (rc : Nat) : umP M od rg rc 0 = umM M od rg rc := by
  refine pm_ext fun a k => ?_
  have e : umB od rc 0 a k = (anyB (fun q => a == 33 + 3 * od q) rc && decide (k < 3)) := by
    unfold umB
    rw [show decide (k < 0) = false from rfl, Bool.and_false, Bool.or_false]
  show (if umB od rc 0 a k = true then _ else _) = _
  rw [e]
theorem umP_put (M : pmM) {od rg : Nat → Nat} {p f : Nat} (hf : f < 3) {x : Int32} (hx : x = mtv M rg (M.1 (32 + 3 * od p) f)) : (pm2 (umP M od rg p f).1 (33 + 3 * od p) f x, (umP M od rg p f).2) = umP M od rg p (f + 1) := by
  refine pm_ext fun a k => ?_
  show (if a = 33 + 3 * od p ∧ k = f then x else (if umB od p f a k = true then mtv M rg (M.1 (a - 1) k) else M.1 a k)) = if umB od p (f + 1) a k = true then mtv M rg (M.1 (a - 1) k) else M.1 a k
  by_cases h1 : a = 33 + 3 * od p ∧ k = f
  · obtain ⟨rfl, rfl⟩ := h1
    rw [if_pos ⟨rfl, rfl⟩, if_pos (by simp [umB]), hx, show 33 + 3 * od p - 1 = 32 + 3 * od p by omega]
  · rw [if_neg h1]
    have e : umB od p (f + 1) a k = umB od p f a k := by
      unfold umB
      congr 1
      by_cases h2 : a = 33 + 3 * od p
      · have : k ≠ f := fun q => h1 ⟨h2, q⟩
        have : decide (k < f + 1) = decide (k < f) := by
          rw [decide_eq_decide]; omega
        rw [this]
      · have : (a == 33 + 3 * od p) = false := by simpa using h2
        rw [this, Bool.false_and, Bool.false_and]
    rw [e]
theorem s_updateMatching {l : Launch} (hf : l.stackTraces = false) {M : pmM} {od : Nat → Nat} (hmr : M.2.1 = mrC od) (hod : ∀ p, p < 8 → od p < 8) {rg : Nat → Nat} (hrg : ∀ o, o < 8 → M.1 (15 + 2 * o) 1 = nI (rg o) ∧ rg o ≤ 3) {rc : Nat} (hrc : M.1 0 3 = nI rc) (h8 : rc ≤ 8) (hfo : ∀ p f, p < rc → f < 3 → fOk (M.1 (32 + 3 * od p) f)) : Sp l kX3_updateMatching 64 10 0 0 [.ref 0] M (.inl none) (umM M od rg rc) := by
  refine sp_of hf (by decide +kernel) (Nat.le_of_ble_eq_true rfl) (by intro v hv; simp at hv; subst hv; rfl) rfl ?_
  refine e_iconst (v := nI 0) dX3_updateMatching_0 rfl ic_0 ?_
  refine e_istore_1 dX3_updateMatching_1 rfl (Nat.le_of_ble_eq_true rfl) rfl ?_
  have hU : ∀ p f a k, a % 3 ≠ 0 ∨ a < 33 → (umP M od rg p f).1 a k = M.1 a k := fun p f a k h => umP_no M (fun q => by omega)
  have hrg2 : ∀ p f o, o < 8 → (umP M od rg p f).1 (15 + 2 * o) 1 = nI (rg o) ∧ rg o ≤ 3 := fun p f o ho => by rw [hU _ _ _ _ (Or.inr (by omega))]; exact hrg o ho
  refine e_mem (umP_0 M od rg) ?_
  refine loop_up (P := fun p => Ev l kX3_updateMatching (gM 64 0 0 (.inl none) (umM M od rg rc)) (rmd 10 0 0) 64 0 0 2 [some (.ref 0), some (.int (nI p)), none, none, none] [] (umP M od rg p 0)) ?_ (fun p hp ih => ?_) 0 (Nat.zero_le rc)
  · refine e_iload_1 dX3_updateMatching_2 rfl ?_
    refine e_aload_0 dX3_updateMatching_3 rfl ?_
    refine e_getI dX3_updateMatching_4 rfl lkX3_116 rfl ps_0 (by decide) (by decide) ?_
    refine e_topi (nI rc) ((hU _ _ _ _ (Or.inr (by decide))).trans hrc) ?_
    refine e_nc_ge_t (tgt := 70) dX3_updateMatching_7 (by decide) (by omega) (by omega) (Nat.le_refl _) ?_
    exact e_vret dX3_updateMatching_70 rfl (Nat.le_of_ble_eq_true rfl) (Nat.le_of_ble_eq_true rfl) (umP_end M od rg rc)
  · refine e_iload_1 dX3_updateMatching_2 rfl ?_
    refine e_aload_0 dX3_updateMatching_3 rfl ?_
    refine e_getI dX3_updateMatching_4 rfl lkX3_116 rfl ps_0 (by decide) (by decide) ?_
    refine e_topi (nI rc) ((hU _ _ _ _ (Or.inr (by decide))).trans hrc) ?_
    refine e_nc_ge_f dX3_updateMatching_7 rfl ⟨70, by decide⟩ (by omega) (by omega) hp ?_
    refine e_aload_0 dX3_updateMatching_10 rfl ?_
    refine e_getR dX3_updateMatching_11 rfl lkX3_17 rfl ps_0 (by decide) (by decide) (mr_of hmr rfl) ?_
    refine e_iload_1 dX3_updateMatching_14 rfl ?_
    refine e_aald dX3_updateMatching_15 rfl ps_2 (by decide) (by decide) (by decide) rfl (by omega) (mr_of hmr (mr_order _ _)) ?_
    refine e_astore_2 dX3_updateMatching_16 rfl (Nat.le_of_ble_eq_true rfl) rfl ?_
    refine e_iconst (v := nI 0) dX3_updateMatching_17 rfl ic_0 ?_
    refine e_istore_3 dX3_updateMatching_18 rfl (Nat.le_of_ble_eq_true rfl) rfl ?_
    refine loop_up (P := fun f => Ev l kX3_updateMatching (gM 64 0 0 (.inl none) (umM M od rg rc)) (rmd 10 0 0) 64 0 0 19 [some (.ref 0), some (.int (nI p)), some (.ref (31 + 3 * od p)), some (.int (nI f)), none] [] (umP M od rg p f)) ?_ (fun f hff ih2 => ?_) 0 (Nat.zero_le 3)
    · refine e_iload_3 dX3_updateMatching_19 rfl ?_
      refine e_iconst (v := nI 3) dX3_updateMatching_20 rfl ic_3 ?_
      refine e_nc_ge_t (tgt := 64) dX3_updateMatching_21 (by decide) (by omega) (by omega) (Nat.le_refl 3) ?_
      refine e_iinc_1 (v := nI (p + 1)) dX3_updateMatching_64 rfl (Nat.le_of_ble_eq_true rfl) rfl (nI_1 p) ?_
      refine e_goto (tgt := 2) dX3_updateMatching_67 (by decide) ?_
      refine e_weak (weak_c (weak_c (weak_n (weak_n weak_nil)))) ?_
      exact e_mem (umP_up M od rg p) ih
    · have hx := hfo p f hp hff
      have hv : (umP M od rg p f).1 (32 + 3 * od p) f = M.1 (32 + 3 * od p) f := hU _ _ _ _ (Or.inl (by omega))
      rcases hx with hx | ⟨b, hb, hx⟩
      · refine e_iload_3 dX3_updateMatching_19 rfl ?_
        refine e_iconst (v := nI 3) dX3_updateMatching_20 rfl ic_3 ?_
        refine e_nc_ge_f dX3_updateMatching_21 rfl ⟨64, by decide⟩ (by omega) (by omega) hff ?_
        refine e_aload_2 dX3_updateMatching_24 rfl ?_
        refine e_getR dX3_updateMatching_25 rfl lkX3_119 rfl (ps_R (hod _ (by omega))) (by decide) (lt_RU (hod _ (by omega))) (mr_of hmr (mr_R8 _ (hod _ (by omega)))) ?_
        refine e_iload_3 dX3_updateMatching_28 rfl ?_
        refine e_iald dX3_updateMatching_29 rfl (ps_B (hod _ (by omega))) (lt_RB (hod _ (by omega))) rfl (by omega) ?_
        refine e_istore_4 dX3_updateMatching_30 rfl (Nat.le_of_ble_eq_true rfl) rfl ?_
        refine e_aload_2 dX3_updateMatching_32 rfl ?_
        refine e_getR dX3_updateMatching_33 rfl lkX3_262 rfl (ps_R (hod _ (by omega))) (by decide) (lt_RU (hod _ (by omega))) (mr_of hmr (mr_R9 _ (hod _ (by omega)))) ?_
        refine e_iload_3 dX3_updateMatching_36 rfl ?_
        refine e_iload_4 dX3_updateMatching_37 rfl ?_
        refine e_iconst (v := -1) dX3_updateMatching_39 rfl ic_m1 ?_
        refine e_ic_ne_f dX3_updateMatching_40 rfl ⟨47, by decide⟩ (hv.trans hx) ?_
        refine e_iconst (v := -1) dX3_updateMatching_43 rfl ic_m1 ?_
        refine e_goto (tgt := 57) dX3_updateMatching_44 (by decide) ?_
        refine e_iast dX3_updateMatching_57 rfl (ps_M (hod _ (by omega))) (lt_RM (hod _ (by omega))) rfl (by omega) ?_
        refine e_iinc_3 (v := nI (f + 1)) dX3_updateMatching_58 rfl (Nat.le_of_ble_eq_true rfl) rfl (nI_1 f) ?_
        refine e_goto (tgt := 19) dX3_updateMatching_61 (by decide) ?_
        refine e_weak (weak_c (weak_c (weak_c (weak_c (weak_n weak_nil))))) ?_
        exact e_mem (umP_put M hff (by rw [mtv, if_pos hx])) ih2
      · refine e_iload_3 dX3_updateMatching_19 rfl ?_
        refine e_iconst (v := nI 3) dX3_updateMatching_20 rfl ic_3 ?_
        refine e_nc_ge_f dX3_updateMatching_21 rfl ⟨64, by decide⟩ (by omega) (by omega) hff ?_
        refine e_aload_2 dX3_updateMatching_24 rfl ?_
        refine e_getR dX3_updateMatching_25 rfl lkX3_119 rfl (ps_R (hod _ (by omega))) (by decide) (lt_RU (hod _ (by omega))) (mr_of hmr (mr_R8 _ (hod _ (by omega)))) ?_
        refine e_iload_3 dX3_updateMatching_28 rfl ?_
        refine e_iald dX3_updateMatching_29 rfl (ps_B (hod _ (by omega))) (lt_RB (hod _ (by omega))) rfl (by omega) ?_
        refine e_topi (nI b) (hv.trans hx) ?_
        refine e_istore_4 dX3_updateMatching_30 rfl (Nat.le_of_ble_eq_true rfl) rfl ?_
        refine e_aload_2 dX3_updateMatching_32 rfl ?_
        refine e_getR dX3_updateMatching_33 rfl lkX3_262 rfl (ps_R (hod _ (by omega))) (by decide) (lt_RU (hod _ (by omega))) (mr_of hmr (mr_R9 _ (hod _ (by omega)))) ?_
        refine e_iload_3 dX3_updateMatching_36 rfl ?_
        refine e_iload_4 dX3_updateMatching_37 rfl ?_
        refine e_iconst (v := -1) dX3_updateMatching_39 rfl ic_m1 ?_
        refine e_ic_ne_t (tgt := 47) dX3_updateMatching_40 (by decide) (nI_m1 hb) ?_
        refine e_aload_0 dX3_updateMatching_47 rfl ?_
        refine e_getR dX3_updateMatching_48 rfl lkX3_11 rfl ps_0 (by decide) (by decide) (mr_of hmr rfl) ?_
        refine e_iload_4 dX3_updateMatching_51 rfl ?_
        refine e_iconst (v := nI 0) dX3_updateMatching_53 rfl ic_0 ?_
        refine e_callS dX3_updateMatching_54 rfl csX3_109 (s_valuesOf (M := umP M od rg p f) hf hmr (hrg2 _ _) 8 b 0 hb rfl) rfl rfl ⟨Nat.le_of_ble_eq_true rfl, Nat.le_of_ble_eq_true rfl⟩ ⟨Nat.le_of_ble_eq_true rfl, Nat.le_of_ble_eq_true rfl⟩ rfl rfl (Nat.le_of_ble_eq_true rfl) ?_
        refine e_iast dX3_updateMatching_57 rfl (ps_M (hod _ (by omega))) (lt_RM (hod _ (by omega))) rfl (by omega) ?_
        refine e_iinc_3 (v := nI (f + 1)) dX3_updateMatching_58 rfl (Nat.le_of_ble_eq_true rfl) rfl (nI_1 f) ?_
        refine e_goto (tgt := 19) dX3_updateMatching_61 (by decide) ?_
        refine e_weak (weak_c (weak_c (weak_c (weak_c (weak_n weak_nil))))) ?_
        exact e_mem (umP_put M hff (by rw [hx, mtv, if_neg (nI_m1 hb), ixN_nI hb]; exact voF_congr (fun a k h => hU _ _ _ _ (Or.inr (by omega))) 8 b hb)) ih2
