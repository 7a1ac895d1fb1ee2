/-! ===== FilterRules: the calls about objects ===== -/
theorem umM_no (M : pmM) {od rg : Nat → Nat} {rc a k : Nat} (h : a % 3 ≠ 0 ∨ a < 33) : (umM M od rg rc).1 a k = M.1 a k := by
  rw [← umP_end]
  exact umP_no M (fun q => by omega)
theorem pm2_n {α : Type} {f : Nat → Nat → α} {a k b j : Nat} {v : α} (h : b ≠ a) : pm2 f a k v b j = f b j := if_neg (fun q => h q.1)
theorem pm2_k {α : Type} {f : Nat → Nat → α} {a k b j : Nat} {v : α} (h : j ≠ k) : pm2 f a k v b j = f b j := if_neg (fun q => h q.2)
theorem pm2_e {α : Type} {f : Nat → Nat → α} {a k : Nat} {v : α} : pm2 f a k v a k = v := if_pos ⟨rfl, rfl⟩
def aoM (M : pmM) (oc : Nat) : pmM := (pm2 M.1 0 1 (nI (oc + 1)), M.2)
def arM (M : pmM) (o r a b : Nat) : pmM := (pm2 (pm2 M.1 (16 + 2 * o) r (rgO a b)) (15 + 2 * o) 1 (nI (r + 1)), M.2)
def rrM (M : pmM) (o r : Nat) : pmM := (pm2 M.1 (15 + 2 * o) 1 (nI (r - 1)), M.2)
def amM (M : pmM) (o : Nat) (x : Int32) : pmM := (pm2 M.1 (15 + 2 * o) 2 x, M.2)
def rgS (rg : Nat → Nat) (o r q : Nat) : Nat := if q = o then r else rg q
def cntN (b : Nat → Bool) : Nat → Nat
  | 0 => 0
  | n + 1 => if b n = true then cntN b n + 1 else cntN b n
theorem cntN_le (b : Nat → Bool) : ∀ n, cntN b n ≤ n
  | 0 => Nat.le_refl 0
  | n + 1 => by
    have := cntN_le b n
    rw [cntN]
    split <;> omega
def usB (M : pmM) (od : Nat → Nat) (x i : Nat) : Bool := ionF M (M.1 (32 + 3 * od i) 0) x || (ionF M (M.1 (32 + 3 * od i) 1) x || ionF M (M.1 (32 + 3 * od i) 2) x)
theorem s_addObject_ok {l : Launch} (hf : l.stackTraces = false) {M : pmM} {oc : Nat} (hoc : M.1 0 1 = nI oc) (hoc8 : oc ≤ 8) (hlt : oc < 8) : Sp l kX3_addObject 64 1 1 6 [.ref 0] M (.inl (some (.int (nI oc)))) (aoM M oc) := by
  refine sp_of hf (by decide +kernel) (Nat.le_of_ble_eq_true rfl) (by intro v hv; simp at hv; subst hv; rfl) rfl ?_
  refine e_aload_0 dX3_addObject_0 rfl ?_
  refine e_getI dX3_addObject_1 rfl lkX3_39 rfl ps_0 (by decide) (by decide) ?_
  refine e_topi (nI oc) hoc ?_
  refine e_bipush (v := nI 8) dX3_addObject_4 rfl bc_8 ?_
  refine e_nc_lt_t (tgt := 19) dX3_addObject_6 (by decide) (by omega) (by omega) hlt ?_
  refine e_aload_0 dX3_addObject_19 rfl ?_
  refine e_dup dX3_addObject_20 rfl rfl ?_
  refine e_getI dX3_addObject_21 rfl lkX3_39 rfl ps_0 (by decide) (by decide) ?_
  refine e_topi (nI oc) hoc ?_
  refine e_iconst (v := nI 1) dX3_addObject_24 rfl ic_1 ?_
  refine e_iadd dX3_addObject_25 rfl ?_
  refine e_topi (nI (oc + 1)) (nI_add _ _) ?_
  refine e_putI dX3_addObject_26 rfl lkX3_39 rfl rfl rfl ps_0 (by decide) (by decide) ?_
  refine e_aload_0 dX3_addObject_29 rfl ?_
  refine e_getI dX3_addObject_30 rfl lkX3_39 rfl ps_0 (by decide) (by decide) ?_
  refine e_topi (nI (oc + 1)) rfl ?_
  refine e_iconst (v := nI 1) dX3_addObject_33 rfl ic_1 ?_
  refine e_isub dX3_addObject_34 rfl ?_
  refine e_topi (nI (oc + 1 - 1)) (pk_sub (by omega)) ?_
  exact e_iret dX3_addObject_35 rfl rfl (Nat.le_of_ble_eq_true rfl) (Nat.le_of_ble_eq_true rfl) rfl rfl
theorem s_addObject_no {l : Launch} (hf : l.stackTraces = false) {M : pmM} (hoc : M.1 0 1 = nI 8) : Sp l kX3_addObject 64 1 1 6 [.ref 0] M (.inr "java/lang/IllegalStateException") M := by
  refine sp_of hf (by decide +kernel) (Nat.le_of_ble_eq_true rfl) (by intro v hv; simp at hv; subst hv; rfl) rfl ?_
  refine e_aload_0 dX3_addObject_0 rfl ?_
  refine e_getI dX3_addObject_1 rfl lkX3_39 rfl ps_0 (by decide) (by decide) ?_
  refine e_topi (nI 8) hoc ?_
  refine e_bipush (v := nI 8) dX3_addObject_4 rfl bc_8 ?_
  refine e_nc_lt_f dX3_addObject_6 rfl ⟨19, by decide⟩ (by omega) (by omega) (by decide) ?_
  exact e_throw dX3_addObject_9 dX3_addObject_12 dX3_addObject_13 dX3_addObject_15 dX3_addObject_18 th_43_45_47 rfl ⟨Nat.le_of_ble_eq_true rfl, Nat.le_of_ble_eq_true rfl⟩ (Nat.le_of_ble_eq_true rfl) ⟨Nat.le_of_ble_eq_true rfl, Nat.le_of_ble_eq_true rfl⟩ ⟨Nat.le_of_ble_eq_true rfl, Nat.le_of_ble_eq_true rfl⟩ rfl
theorem s_requireRange_no {l : Launch} (hf : l.stackTraces = false) {M : pmM} {x y : Int32} (hx : ∀ a b : Nat, a ≤ b → b < 32 → ¬ (x = nI a ∧ y = nI b)) : Sp l kX3_requireRange 64 2 3 18 [.int x, .int y] M (.inr "java/lang/IllegalArgumentException") M := by
  by_cases h1 : vp_in x 32
  · obtain ⟨a, ha, rfl⟩ := vp_in_of h1 (by decide)
    by_cases h2 : vp_in y 32
    · obtain ⟨b, hb, rfl⟩ := vp_in_of h2 (by decide)
      by_cases h3 : a ≤ b
      · exact absurd ⟨rfl, rfl⟩ (hx a b h3 hb)
      · exact s_requireRange_no3 hf ha hb (by omega)
    · exact s_requireRange_no2 hf ha h2
  · exact s_requireRange_no1 hf h1
theorem s_addRange_ok {l : Launch} (hf : l.stackTraces = false) {M : pmM} {od : Nat → Nat} (hmr : M.2.1 = mrC od) (hod : ∀ p, p < 8 → od p < 8) {rg : Nat → Nat} (hrg : ∀ o, o < 8 → M.1 (15 + 2 * o) 1 = nI (rg o) ∧ rg o ≤ 3) {rc : Nat} (hrc : M.1 0 3 = nI rc) (h8 : rc ≤ 8) (hfo : ∀ p f, p < rc → f < 3 → fOk (M.1 (32 + 3 * od p) f)) {oc : Nat} (hoc : M.1 0 1 = nI oc) (hoc8 : oc ≤ 8) {o : Nat} (ho : o < oc) {a b : Nat} (hab : a ≤ b) (hb : b < 32) (hlt : rg o < 3) : Sp l kX3_addRange 64 11 5 30 [.ref 0, .int (nI o), .int (nI a), .int (nI b)] M (.inl (some (.int (nI (rg o + 1))))) (umM (arM M o (rg o) a b) od (rgS rg o (rg o + 1)) rc) := by
  refine sp_of hf (by decide +kernel) (Nat.le_of_ble_eq_true rfl) (by intro v hv; simp at hv; rcases hv with rfl | rfl | rfl | rfl <;> rfl) rfl ?_
  have hr := (hrg o (by omega)).1
  have q1 : ∀ q, q < 8 → (arM M o (rg o) a b).1 (15 + 2 * q) 1 = nI ((rgS rg o (rg o + 1)) q) ∧ (rgS rg o (rg o + 1)) q ≤ 3 := by
    intro q hq
    unfold rgS arM
    by_cases e : q = o
    · subst e; rw [if_pos rfl]; exact ⟨pm2_e, by omega⟩
    · rw [if_neg e]; exact ⟨by show pm2 _ _ _ _ _ _ = _; rw [pm2_n (by omega), pm2_n (by omega)]; exact (hrg q hq).1, (hrg q hq).2⟩
  have q2 : (arM M o (rg o) a b).1 0 3 = nI rc := by show pm2 _ _ _ _ _ _ = _; rw [pm2_n (by omega), pm2_n (by omega)]; exact hrc
  have q3 : ∀ p f, p < rc → f < 3 → fOk ((arM M o (rg o) a b).1 (32 + 3 * od p) f) := fun p f h1 h2 => by show fOk (pm2 _ _ _ _ _ _); rw [pm2_n (by omega), pm2_n (by omega)]; exact hfo p f h1 h2
  refine e_aload_0 dX3_addRange_0 rfl ?_
  refine e_iload_1 dX3_addRange_1 rfl ?_
  refine e_callV dX3_addRange_2 rfl csX3_50 (s_requireObject_ok hf hoc hoc8 ho) rfl rfl ps_0 (by decide) (by decide) ⟨Nat.le_of_ble_eq_true rfl, Nat.le_of_ble_eq_true rfl⟩ ⟨Nat.le_of_ble_eq_true rfl, Nat.le_of_ble_eq_true rfl⟩ rfl rfl (Nat.le_of_ble_eq_true rfl) ?_
  refine e_iload_2 dX3_addRange_5 rfl ?_
  refine e_iload_3 dX3_addRange_6 rfl ?_
  refine e_callS dX3_addRange_7 rfl csX3_54 (s_requireRange_ok hf (by omega) hb hab) rfl rfl ⟨Nat.le_of_ble_eq_true rfl, Nat.le_of_ble_eq_true rfl⟩ ⟨Nat.le_of_ble_eq_true rfl, Nat.le_of_ble_eq_true rfl⟩ rfl rfl (Nat.le_of_ble_eq_true rfl) ?_
  refine e_aload_0 dX3_addRange_10 rfl ?_
  refine e_getR dX3_addRange_11 rfl lkX3_11 rfl ps_0 (by decide) (by decide) (mr_of hmr rfl) ?_
  refine e_iload_1 dX3_addRange_14 rfl ?_
  refine e_aald dX3_addRange_15 rfl ps_1 (by decide) (by decide) (by decide) rfl (by omega) (mr_of hmr (mr_sets _ _)) ?_
  refine e_astore_4 dX3_addRange_16 rfl (Nat.le_of_ble_eq_true rfl) rfl ?_
  refine e_aload_4 dX3_addRange_18 rfl ?_
  refine e_getI dX3_addRange_20 rfl lkX3_58 rfl (ps_O (by omega)) (by decide) (lt_VS (by omega)) ?_
  refine e_topi (nI (rg o)) hr ?_
  refine e_iconst (v := nI 3) dX3_addRange_23 rfl ic_3 ?_
  refine e_nc_lt_t (tgt := 37) dX3_addRange_24 (by decide) (by omega) (by omega) hlt ?_
  refine e_aload_4 dX3_addRange_37 rfl ?_
  refine e_getR dX3_addRange_39 rfl lkX3_63 rfl (ps_O (by omega)) (by decide) (lt_VS (by omega)) (mr_of hmr (mr_O _ (by omega))) ?_
  refine e_aload_4 dX3_addRange_42 rfl ?_
  refine e_getI dX3_addRange_44 rfl lkX3_58 rfl (ps_O (by omega)) (by decide) (lt_VS (by omega)) ?_
  refine e_topi (nI (rg o)) hr ?_
  refine e_iload_2 dX3_addRange_47 rfl ?_
  refine e_iload_3 dX3_addRange_48 rfl ?_
  refine e_callS dX3_addRange_49 rfl csX3_66 (s_rangeOf hf) rfl rfl ⟨Nat.le_of_ble_eq_true rfl, Nat.le_of_ble_eq_true rfl⟩ ⟨Nat.le_of_ble_eq_true rfl, Nat.le_of_ble_eq_true rfl⟩ rfl rfl (Nat.le_of_ble_eq_true rfl) ?_
  refine e_iast dX3_addRange_52 rfl (ps_G (by omega)) (lt_VR (by omega)) rfl (by omega) ?_
  refine e_aload_4 dX3_addRange_53 rfl ?_
  refine e_dup dX3_addRange_55 rfl rfl ?_
  refine e_getI dX3_addRange_56 rfl lkX3_58 rfl (ps_O (by omega)) (by decide) (lt_VS (by omega)) ?_
  refine e_topi (nI (rg o)) ((pm2_n (by omega)).trans hr) ?_
  refine e_iconst (v := nI 1) dX3_addRange_59 rfl ic_1 ?_
  refine e_iadd dX3_addRange_60 rfl ?_
  refine e_topi (nI (rg o + 1)) (nI_add _ _) ?_
  refine e_putI dX3_addRange_61 rfl lkX3_58 rfl rfl rfl (ps_O (by omega)) (by decide) (lt_VS (by omega)) ?_
  refine e_aload_0 dX3_addRange_64 rfl ?_
  refine e_callV dX3_addRange_65 rfl csX3_70 (s_updateMatching (M := (arM M o (rg o) a b)) hf hmr hod q1 q2 h8 q3) rfl rfl ps_0 (by decide) (by decide) ⟨Nat.le_of_ble_eq_true rfl, Nat.le_of_ble_eq_true rfl⟩ ⟨Nat.le_of_ble_eq_true rfl, Nat.le_of_ble_eq_true rfl⟩ rfl rfl (Nat.le_of_ble_eq_true rfl) ?_
  refine e_aload_4 dX3_addRange_68 rfl ?_
  refine e_getI dX3_addRange_70 rfl lkX3_58 rfl (ps_O (by omega)) (by decide) (lt_VS (by omega)) ?_
  refine e_topi (nI (rg o + 1)) ((umM_no _ (Or.inr (by omega))).trans pm2_e) ?_
  exact e_iret dX3_addRange_73 rfl rfl (Nat.le_of_ble_eq_true rfl) (Nat.le_of_ble_eq_true rfl) rfl rfl
theorem s_addRange_no1 {l : Launch} (hf : l.stackTraces = false) {M : pmM} {oc : Nat} (hoc : M.1 0 1 = nI oc) (hoc8 : oc ≤ 8) {x : Int32} (hx : ¬ vp_in x oc) {y z : Int32} : Sp l kX3_addRange 64 11 5 30 [.ref 0, .int x, .int y, .int z] M (.inr "java/lang/IndexOutOfBoundsException") M := by
  refine sp_of hf (by decide +kernel) (Nat.le_of_ble_eq_true rfl) (by intro v hv; simp at hv; rcases hv with rfl | rfl | rfl | rfl <;> rfl) rfl ?_
  refine e_aload_0 dX3_addRange_0 rfl ?_
  refine e_iload_1 dX3_addRange_1 rfl ?_
  exact e_callV_x dX3_addRange_2 csX3_50 (s_requireObject_no hf hoc hoc8 hx) rfl rfl ps_0 (by decide) (by decide) ⟨Nat.le_of_ble_eq_true rfl, Nat.le_of_ble_eq_true rfl⟩ ⟨Nat.le_of_ble_eq_true rfl, Nat.le_of_ble_eq_true rfl⟩ (Nat.le_of_ble_eq_true rfl) rfl ⟨Nat.le_of_ble_eq_true rfl, Nat.le_of_ble_eq_true rfl⟩
theorem s_addRange_no2 {l : Launch} (hf : l.stackTraces = false) {M : pmM} {oc : Nat} (hoc : M.1 0 1 = nI oc) (hoc8 : oc ≤ 8) {o : Nat} (ho : o < oc) {x y : Int32} (hx : ∀ a b : Nat, a ≤ b → b < 32 → ¬ (x = nI a ∧ y = nI b)) : Sp l kX3_addRange 64 11 5 30 [.ref 0, .int (nI o), .int x, .int y] M (.inr "java/lang/IllegalArgumentException") M := by
  refine sp_of hf (by decide +kernel) (Nat.le_of_ble_eq_true rfl) (by intro v hv; simp at hv; rcases hv with rfl | rfl | rfl | rfl <;> rfl) rfl ?_
  refine e_aload_0 dX3_addRange_0 rfl ?_
  refine e_iload_1 dX3_addRange_1 rfl ?_
  refine e_callV dX3_addRange_2 rfl csX3_50 (s_requireObject_ok hf hoc hoc8 ho) rfl rfl ps_0 (by decide) (by decide) ⟨Nat.le_of_ble_eq_true rfl, Nat.le_of_ble_eq_true rfl⟩ ⟨Nat.le_of_ble_eq_true rfl, Nat.le_of_ble_eq_true rfl⟩ rfl rfl (Nat.le_of_ble_eq_true rfl) ?_
  refine e_iload_2 dX3_addRange_5 rfl ?_
  refine e_iload_3 dX3_addRange_6 rfl ?_
  exact e_callS_x dX3_addRange_7 csX3_54 (s_requireRange_no hf hx) rfl rfl ⟨Nat.le_of_ble_eq_true rfl, Nat.le_of_ble_eq_true rfl⟩ ⟨Nat.le_of_ble_eq_true rfl, Nat.le_of_ble_eq_true rfl⟩ (Nat.le_of_ble_eq_true rfl) rfl ⟨Nat.le_of_ble_eq_true rfl, Nat.le_of_ble_eq_true rfl⟩
theorem s_addRange_no3 {l : Launch} (hf : l.stackTraces = false) {M : pmM} {od : Nat → Nat} (hmr : M.2.1 = mrC od) {rg : Nat → Nat} (hrg : ∀ o, o < 8 → M.1 (15 + 2 * o) 1 = nI (rg o) ∧ rg o ≤ 3) {oc : Nat} (hoc : M.1 0 1 = nI oc) (hoc8 : oc ≤ 8) {o : Nat} (ho : o < oc) {a b : Nat} (hab : a ≤ b) (hb : b < 32) (hlt : ¬ rg o < 3) : Sp l kX3_addRange 64 11 5 30 [.ref 0, .int (nI o), .int (nI a), .int (nI b)] M (.inr "java/lang/IllegalStateException") M := by
  refine sp_of hf (by decide +kernel) (Nat.le_of_ble_eq_true rfl) (by intro v hv; simp at hv; rcases hv with rfl | rfl | rfl | rfl <;> rfl) rfl ?_
  have hr := hrg o (by omega)
  refine e_aload_0 dX3_addRange_0 rfl ?_
  refine e_iload_1 dX3_addRange_1 rfl ?_
  refine e_callV dX3_addRange_2 rfl csX3_50 (s_requireObject_ok hf hoc hoc8 ho) rfl rfl ps_0 (by decide) (by decide) ⟨Nat.le_of_ble_eq_true rfl, Nat.le_of_ble_eq_true rfl⟩ ⟨Nat.le_of_ble_eq_true rfl, Nat.le_of_ble_eq_true rfl⟩ rfl rfl (Nat.le_of_ble_eq_true rfl) ?_
  refine e_iload_2 dX3_addRange_5 rfl ?_
  refine e_iload_3 dX3_addRange_6 rfl ?_
  refine e_callS dX3_addRange_7 rfl csX3_54 (s_requireRange_ok hf (by omega) hb hab) rfl rfl ⟨Nat.le_of_ble_eq_true rfl, Nat.le_of_ble_eq_true rfl⟩ ⟨Nat.le_of_ble_eq_true rfl, Nat.le_of_ble_eq_true rfl⟩ rfl rfl (Nat.le_of_ble_eq_true rfl) ?_
  refine e_aload_0 dX3_addRange_10 rfl ?_
  refine e_getR dX3_addRange_11 rfl lkX3_11 rfl ps_0 (by decide) (by decide) (mr_of hmr rfl) ?_
  refine e_iload_1 dX3_addRange_14 rfl ?_
  refine e_aald dX3_addRange_15 rfl ps_1 (by decide) (by decide) (by decide) rfl (by omega) (mr_of hmr (mr_sets _ _)) ?_
  refine e_astore_4 dX3_addRange_16 rfl (Nat.le_of_ble_eq_true rfl) rfl ?_
  refine e_aload_4 dX3_addRange_18 rfl ?_
  refine e_getI dX3_addRange_20 rfl lkX3_58 rfl (ps_O (by omega)) (by decide) (lt_VS (by omega)) ?_
  refine e_topi (nI (rg o)) hr.1 ?_
  refine e_iconst (v := nI 3) dX3_addRange_23 rfl ic_3 ?_
  refine e_nc_lt_f dX3_addRange_24 rfl ⟨37, by decide⟩ (by omega) (by omega) (by omega) ?_
  exact e_throw dX3_addRange_27 dX3_addRange_30 dX3_addRange_31 dX3_addRange_33 dX3_addRange_36 th_43_61_47 rfl ⟨Nat.le_of_ble_eq_true rfl, Nat.le_of_ble_eq_true rfl⟩ (Nat.le_of_ble_eq_true rfl) ⟨Nat.le_of_ble_eq_true rfl, Nat.le_of_ble_eq_true rfl⟩ ⟨Nat.le_of_ble_eq_true rfl, Nat.le_of_ble_eq_true rfl⟩ rfl
theorem s_removeRange_ok {l : Launch} (hf : l.stackTraces = false) {M : pmM} {od : Nat → Nat} (hmr : M.2.1 = mrC od) (hod : ∀ p, p < 8 → od p < 8) {rg : Nat → Nat} (hrg : ∀ o, o < 8 → M.1 (15 + 2 * o) 1 = nI (rg o) ∧ rg o ≤ 3) {rc : Nat} (hrc : M.1 0 3 = nI rc) (h8 : rc ≤ 8) (hfo : ∀ p f, p < rc → f < 3 → fOk (M.1 (32 + 3 * od p) f)) {oc : Nat} (hoc : M.1 0 1 = nI oc) (hoc8 : oc ≤ 8) {o : Nat} (ho : o < oc) (hgt : 0 < rg o) : Sp l kX3_removeRange 64 11 2 12 [.ref 0, .int (nI o)] M (.inl (some (.int (nI (rg o - 1))))) (umM (rrM M o (rg o)) od (rgS rg o (rg o - 1)) rc) := by
  refine sp_of hf (by decide +kernel) (Nat.le_of_ble_eq_true rfl) (by intro v hv; simp at hv; rcases hv with rfl | rfl <;> rfl) rfl ?_
  have hr := (hrg o (by omega)).1
  have hr3 := (hrg o (by omega)).2
  have q1 : ∀ q, q < 8 → (rrM M o (rg o)).1 (15 + 2 * q) 1 = nI ((rgS rg o (rg o - 1)) q) ∧ (rgS rg o (rg o - 1)) q ≤ 3 := by
    intro q hq
    unfold rgS rrM
    by_cases e : q = o
    · subst e; rw [if_pos rfl]; exact ⟨pm2_e, by omega⟩
    · rw [if_neg e]; exact ⟨by show pm2 _ _ _ _ _ _ = _; rw [pm2_n (by omega)]; exact (hrg q hq).1, (hrg q hq).2⟩
  have q2 : (rrM M o (rg o)).1 0 3 = nI rc := by show pm2 _ _ _ _ _ _ = _; rw [pm2_n (by omega)]; exact hrc
  have q3 : ∀ p f, p < rc → f < 3 → fOk ((rrM M o (rg o)).1 (32 + 3 * od p) f) := fun p f h1 h2 => by show fOk (pm2 _ _ _ _ _ _); rw [pm2_n (by omega)]; exact hfo p f h1 h2
  refine e_aload_0 dX3_removeRange_0 rfl ?_
  refine e_iload_1 dX3_removeRange_1 rfl ?_
  refine e_callV dX3_removeRange_2 rfl csX3_50 (s_requireObject_ok hf hoc hoc8 ho) rfl rfl ps_0 (by decide) (by decide) ⟨Nat.le_of_ble_eq_true rfl, Nat.le_of_ble_eq_true rfl⟩ ⟨Nat.le_of_ble_eq_true rfl, Nat.le_of_ble_eq_true rfl⟩ rfl rfl (Nat.le_of_ble_eq_true rfl) ?_
  refine e_aload_0 dX3_removeRange_5 rfl ?_
  refine e_getR dX3_removeRange_6 rfl lkX3_11 rfl ps_0 (by decide) (by decide) (mr_of hmr rfl) ?_
  refine e_iload_1 dX3_removeRange_9 rfl ?_
  refine e_aald dX3_removeRange_10 rfl ps_1 (by decide) (by decide) (by decide) rfl (by omega) (mr_of hmr (mr_sets _ _)) ?_
  refine e_astore_2 dX3_removeRange_11 rfl (Nat.le_of_ble_eq_true rfl) rfl ?_
  refine e_aload_2 dX3_removeRange_12 rfl ?_
  refine e_getI dX3_removeRange_13 rfl lkX3_58 rfl (ps_O (by omega)) (by decide) (lt_VS (by omega)) ?_
  refine e_topi (nI (rg o)) hr ?_
  refine e_if_gt_t (tgt := 29) dX3_removeRange_16 (by decide) (show nI 0 < nI (rg o) from (nI_ltI (by omega) (by omega)).mpr hgt) ?_
  refine e_aload_2 dX3_removeRange_29 rfl ?_
  refine e_dup dX3_removeRange_30 rfl rfl ?_
  refine e_getI dX3_removeRange_31 rfl lkX3_58 rfl (ps_O (by omega)) (by decide) (lt_VS (by omega)) ?_
  refine e_topi (nI (rg o)) hr ?_
  refine e_iconst (v := nI 1) dX3_removeRange_34 rfl ic_1 ?_
  refine e_isub dX3_removeRange_35 rfl ?_
  refine e_topi (nI (rg o - 1)) (pk_sub (by omega)) ?_
  refine e_putI dX3_removeRange_36 rfl lkX3_58 rfl rfl rfl (ps_O (by omega)) (by decide) (lt_VS (by omega)) ?_
  refine e_aload_0 dX3_removeRange_39 rfl ?_
  refine e_callV dX3_removeRange_40 rfl csX3_70 (s_updateMatching (M := (rrM M o (rg o))) hf hmr hod q1 q2 h8 q3) rfl rfl ps_0 (by decide) (by decide) ⟨Nat.le_of_ble_eq_true rfl, Nat.le_of_ble_eq_true rfl⟩ ⟨Nat.le_of_ble_eq_true rfl, Nat.le_of_ble_eq_true rfl⟩ rfl rfl (Nat.le_of_ble_eq_true rfl) ?_
  refine e_aload_2 dX3_removeRange_43 rfl ?_
  refine e_getI dX3_removeRange_44 rfl lkX3_58 rfl (ps_O (by omega)) (by decide) (lt_VS (by omega)) ?_
  refine e_topi (nI (rg o - 1)) ((umM_no _ (Or.inr (by omega))).trans pm2_e) ?_
  exact e_iret dX3_removeRange_47 rfl rfl (Nat.le_of_ble_eq_true rfl) (Nat.le_of_ble_eq_true rfl) rfl rfl
theorem s_removeRange_no1 {l : Launch} (hf : l.stackTraces = false) {M : pmM} {oc : Nat} (hoc : M.1 0 1 = nI oc) (hoc8 : oc ≤ 8) {x : Int32} (hx : ¬ vp_in x oc) : Sp l kX3_removeRange 64 11 2 12 [.ref 0, .int x] M (.inr "java/lang/IndexOutOfBoundsException") M := by
  refine sp_of hf (by decide +kernel) (Nat.le_of_ble_eq_true rfl) (by intro v hv; simp at hv; rcases hv with rfl | rfl <;> rfl) rfl ?_
  refine e_aload_0 dX3_removeRange_0 rfl ?_
  refine e_iload_1 dX3_removeRange_1 rfl ?_
  exact e_callV_x dX3_removeRange_2 csX3_50 (s_requireObject_no hf hoc hoc8 hx) rfl rfl ps_0 (by decide) (by decide) ⟨Nat.le_of_ble_eq_true rfl, Nat.le_of_ble_eq_true rfl⟩ ⟨Nat.le_of_ble_eq_true rfl, Nat.le_of_ble_eq_true rfl⟩ (Nat.le_of_ble_eq_true rfl) rfl ⟨Nat.le_of_ble_eq_true rfl, Nat.le_of_ble_eq_true rfl⟩
theorem s_removeRange_no2 {l : Launch} (hf : l.stackTraces = false) {M : pmM} {od : Nat → Nat} (hmr : M.2.1 = mrC od) {rg : Nat → Nat} (hrg : ∀ o, o < 8 → M.1 (15 + 2 * o) 1 = nI (rg o) ∧ rg o ≤ 3) {oc : Nat} (hoc : M.1 0 1 = nI oc) (hoc8 : oc ≤ 8) {o : Nat} (ho : o < oc) (h0 : rg o = 0) : Sp l kX3_removeRange 64 11 2 12 [.ref 0, .int (nI o)] M (.inr "java/lang/IllegalStateException") M := by
  refine sp_of hf (by decide +kernel) (Nat.le_of_ble_eq_true rfl) (by intro v hv; simp at hv; rcases hv with rfl | rfl <;> rfl) rfl ?_
  have hr := (hrg o (by omega)).1
  rw [h0] at hr
  refine e_aload_0 dX3_removeRange_0 rfl ?_
  refine e_iload_1 dX3_removeRange_1 rfl ?_
  refine e_callV dX3_removeRange_2 rfl csX3_50 (s_requireObject_ok hf hoc hoc8 ho) rfl rfl ps_0 (by decide) (by decide) ⟨Nat.le_of_ble_eq_true rfl, Nat.le_of_ble_eq_true rfl⟩ ⟨Nat.le_of_ble_eq_true rfl, Nat.le_of_ble_eq_true rfl⟩ rfl rfl (Nat.le_of_ble_eq_true rfl) ?_
  refine e_aload_0 dX3_removeRange_5 rfl ?_
  refine e_getR dX3_removeRange_6 rfl lkX3_11 rfl ps_0 (by decide) (by decide) (mr_of hmr rfl) ?_
  refine e_iload_1 dX3_removeRange_9 rfl ?_
  refine e_aald dX3_removeRange_10 rfl ps_1 (by decide) (by decide) (by decide) rfl (by omega) (mr_of hmr (mr_sets _ _)) ?_
  refine e_astore_2 dX3_removeRange_11 rfl (Nat.le_of_ble_eq_true rfl) rfl ?_
  refine e_aload_2 dX3_removeRange_12 rfl ?_
  refine e_getI dX3_removeRange_13 rfl lkX3_58 rfl (ps_O (by omega)) (by decide) (lt_VS (by omega)) ?_
  refine e_topi (nI 0) hr ?_
  refine e_if_gt_f dX3_removeRange_16 rfl ⟨29, by decide⟩ (by decide) ?_
  exact e_throw dX3_removeRange_19 dX3_removeRange_22 dX3_removeRange_23 dX3_removeRange_25 dX3_removeRange_28 th_43_73_47 rfl ⟨Nat.le_of_ble_eq_true rfl, Nat.le_of_ble_eq_true rfl⟩ (Nat.le_of_ble_eq_true rfl) ⟨Nat.le_of_ble_eq_true rfl, Nat.le_of_ble_eq_true rfl⟩ ⟨Nat.le_of_ble_eq_true rfl, Nat.le_of_ble_eq_true rfl⟩ rfl
theorem s_addMember_ok {l : Launch} (hf : l.stackTraces = false) {M : pmM} {od : Nat → Nat} (hmr : M.2.1 = mrC od) (hod : ∀ p, p < 8 → od p < 8) {rg : Nat → Nat} (hrg : ∀ o, o < 8 → M.1 (15 + 2 * o) 1 = nI (rg o) ∧ rg o ≤ 3) {rc : Nat} (hrc : M.1 0 3 = nI rc) (h8 : rc ≤ 8) (hfo : ∀ p f, p < rc → f < 3 → fOk (M.1 (32 + 3 * od p) f)) {oc : Nat} (hoc : M.1 0 1 = nI oc) (hoc8 : oc ≤ 8) {o : Nat} (ho : o < oc) {m : Nat} (hm : m < oc) (hne : o ≠ m) (hnc : hasb (M.1 (15 + 2 * o) 2) m = false) (hnd : ndF M 8 m o = false) {c : Nat} (hbc : bcE (M.1 (15 + 2 * o) 2) = nI c) (hc8 : c ≤ 2) (hlt : c < 2) : Sp l kX3_addMember 64 12 3 18 [.ref 0, .int (nI o), .int (nI m)] M (.inl (some (.int (bcE (M.1 (15 + 2 * o) 2 ||| (nI 1 <<< (nI m &&& 31))))))) (umM (amM M o (M.1 (15 + 2 * o) 2 ||| (nI 1 <<< (nI m &&& 31)))) od rg rc) := by
  refine sp_of hf (by decide +kernel) (Nat.le_of_ble_eq_true rfl) (by intro v hv; simp at hv; rcases hv with rfl | rfl | rfl <;> rfl) rfl ?_
  have q1 : ∀ q, q < 8 → (amM M o (M.1 (15 + 2 * o) 2 ||| (nI 1 <<< (nI m &&& 31)))).1 (15 + 2 * q) 1 = nI (rg q) ∧ rg q ≤ 3 := fun q hq => ⟨by show pm2 _ _ _ _ _ _ = _; rw [pm2_k (by decide)]; exact (hrg q hq).1, (hrg q hq).2⟩
  have q2 : (amM M o (M.1 (15 + 2 * o) 2 ||| (nI 1 <<< (nI m &&& 31)))).1 0 3 = nI rc := by show pm2 _ _ _ _ _ _ = _; rw [pm2_n (by omega)]; exact hrc
  have q3 : ∀ p f, p < rc → f < 3 → fOk ((amM M o (M.1 (15 + 2 * o) 2 ||| (nI 1 <<< (nI m &&& 31)))).1 (32 + 3 * od p) f) := fun p f h1 h2 => by show fOk (pm2 _ _ _ _ _ _); rw [pm2_n (by omega)]; exact hfo p f h1 h2
  refine e_aload_0 dX3_addMember_0 rfl ?_
  refine e_iload_1 dX3_addMember_1 rfl ?_
  refine e_callV dX3_addMember_2 rfl csX3_50 (s_requireObject_ok hf hoc hoc8 ho) rfl rfl ps_0 (by decide) (by decide) ⟨Nat.le_of_ble_eq_true rfl, Nat.le_of_ble_eq_true rfl⟩ ⟨Nat.le_of_ble_eq_true rfl, Nat.le_of_ble_eq_true rfl⟩ rfl rfl (Nat.le_of_ble_eq_true rfl) ?_
  refine e_aload_0 dX3_addMember_5 rfl ?_
  refine e_iload_2 dX3_addMember_6 rfl ?_
  refine e_callV dX3_addMember_7 rfl csX3_50 (s_requireObject_ok hf hoc hoc8 hm) rfl rfl ps_0 (by decide) (by decide) ⟨Nat.le_of_ble_eq_true rfl, Nat.le_of_ble_eq_true rfl⟩ ⟨Nat.le_of_ble_eq_true rfl, Nat.le_of_ble_eq_true rfl⟩ rfl rfl (Nat.le_of_ble_eq_true rfl) ?_
  refine e_aload_0 dX3_addMember_10 rfl ?_
  refine e_getR dX3_addMember_11 rfl lkX3_11 rfl ps_0 (by decide) (by decide) (mr_of hmr rfl) ?_
  refine e_iload_1 dX3_addMember_14 rfl ?_
  refine e_aald dX3_addMember_15 rfl ps_1 (by decide) (by decide) (by decide) rfl (by omega) (mr_of hmr (mr_sets _ _)) ?_
  refine e_astore_3 dX3_addMember_16 rfl (Nat.le_of_ble_eq_true rfl) rfl ?_
  refine e_iload_1 dX3_addMember_17 rfl ?_
  refine e_iload_2 dX3_addMember_18 rfl ?_
  refine e_nc_eq_f dX3_addMember_19 rfl ⟨33, by decide⟩ (by omega) (by omega) hne ?_
  refine e_aload_3 dX3_addMember_22 rfl ?_
  refine e_getI dX3_addMember_23 rfl lkX3_75 rfl (ps_O (by omega)) (by decide) (lt_VS (by omega)) ?_
  refine e_iload_2 dX3_addMember_26 rfl ?_
  refine e_callS dX3_addMember_27 rfl csX3_78 (s_contains hf (show m < 32 by omega)) rfl rfl ⟨Nat.le_of_ble_eq_true rfl, Nat.le_of_ble_eq_true rfl⟩ ⟨Nat.le_of_ble_eq_true rfl, Nat.le_of_ble_eq_true rfl⟩ rfl rfl (Nat.le_of_ble_eq_true rfl) ?_
  refine e_if_eq_t (tgt := 43) dX3_addMember_30 (by decide) (bI0 hnc) ?_
  refine e_aload_0 dX3_addMember_43 rfl ?_
  refine e_getR dX3_addMember_44 rfl lkX3_11 rfl ps_0 (by decide) (by decide) (mr_of hmr rfl) ?_
  refine e_iload_2 dX3_addMember_47 rfl ?_
  refine e_iload_1 dX3_addMember_48 rfl ?_
  refine e_iconst (v := nI 0) dX3_addMember_49 rfl ic_0 ?_
  refine e_callS dX3_addMember_50 rfl csX3_87 (s_needs hf hmr 8 m o 0 (by omega) (by omega) rfl) rfl rfl ⟨Nat.le_of_ble_eq_true rfl, Nat.le_of_ble_eq_true rfl⟩ ⟨Nat.le_of_ble_eq_true rfl, Nat.le_of_ble_eq_true rfl⟩ rfl rfl (Nat.le_of_ble_eq_true rfl) ?_
  refine e_if_eq_t (tgt := 66) dX3_addMember_53 (by decide) (bI0 hnd) ?_
  refine e_aload_3 dX3_addMember_66 rfl ?_
  refine e_getI dX3_addMember_67 rfl lkX3_75 rfl (ps_O (by omega)) (by decide) (lt_VS (by omega)) ?_
  refine e_callS dX3_addMember_70 rfl csX3_96 (s_bitCount hf) rfl rfl ⟨Nat.le_of_ble_eq_true rfl, Nat.le_of_ble_eq_true rfl⟩ ⟨Nat.le_of_ble_eq_true rfl, Nat.le_of_ble_eq_true rfl⟩ rfl rfl (Nat.le_of_ble_eq_true rfl) ?_
  refine e_topi (nI c) hbc ?_
  refine e_iconst (v := nI 2) dX3_addMember_73 rfl ic_2 ?_
  refine e_nc_lt_t (tgt := 87) dX3_addMember_74 (by decide) (by omega) (by omega) hlt ?_
  refine e_aload_3 dX3_addMember_87 rfl ?_
  refine e_dup dX3_addMember_88 rfl rfl ?_
  refine e_getI dX3_addMember_89 rfl lkX3_75 rfl (ps_O (by omega)) (by decide) (lt_VS (by omega)) ?_
  refine e_iconst (v := nI 1) dX3_addMember_92 rfl ic_1 ?_
  refine e_iload_2 dX3_addMember_93 rfl ?_
  refine e_ishl dX3_addMember_94 rfl ?_
  refine e_ior dX3_addMember_95 rfl ?_
  refine e_putI dX3_addMember_96 rfl lkX3_75 rfl rfl rfl (ps_O (by omega)) (by decide) (lt_VS (by omega)) ?_
  refine e_aload_0 dX3_addMember_99 rfl ?_
  refine e_callV dX3_addMember_100 rfl csX3_70 (s_updateMatching (M := (amM M o (M.1 (15 + 2 * o) 2 ||| (nI 1 <<< (nI m &&& 31))))) hf hmr hod q1 q2 h8 q3) rfl rfl ps_0 (by decide) (by decide) ⟨Nat.le_of_ble_eq_true rfl, Nat.le_of_ble_eq_true rfl⟩ ⟨Nat.le_of_ble_eq_true rfl, Nat.le_of_ble_eq_true rfl⟩ rfl rfl (Nat.le_of_ble_eq_true rfl) ?_
  refine e_aload_3 dX3_addMember_103 rfl ?_
  refine e_getI dX3_addMember_104 rfl lkX3_75 rfl (ps_O (by omega)) (by decide) (lt_VS (by omega)) ?_
  refine e_topi (M.1 (15 + 2 * o) 2 ||| (nI 1 <<< (nI m &&& 31))) ((umM_no _ (Or.inr (by omega))).trans pm2_e) ?_
  refine e_callS dX3_addMember_107 rfl csX3_96 (s_bitCount hf) rfl rfl ⟨Nat.le_of_ble_eq_true rfl, Nat.le_of_ble_eq_true rfl⟩ ⟨Nat.le_of_ble_eq_true rfl, Nat.le_of_ble_eq_true rfl⟩ rfl rfl (Nat.le_of_ble_eq_true rfl) ?_
  exact e_iret dX3_addMember_110 rfl rfl (Nat.le_of_ble_eq_true rfl) (Nat.le_of_ble_eq_true rfl) rfl rfl
theorem s_addMember_no1 {l : Launch} (hf : l.stackTraces = false) {M : pmM} {oc : Nat} (hoc : M.1 0 1 = nI oc) (hoc8 : oc ≤ 8) {x : Int32} (hx : ¬ vp_in x oc) {y : Int32} : Sp l kX3_addMember 64 12 3 18 [.ref 0, .int x, .int y] M (.inr "java/lang/IndexOutOfBoundsException") M := by
  refine sp_of hf (by decide +kernel) (Nat.le_of_ble_eq_true rfl) (by intro v hv; simp at hv; rcases hv with rfl | rfl | rfl <;> rfl) rfl ?_
  refine e_aload_0 dX3_addMember_0 rfl ?_
  refine e_iload_1 dX3_addMember_1 rfl ?_
  exact e_callV_x dX3_addMember_2 csX3_50 (s_requireObject_no hf hoc hoc8 hx) rfl rfl ps_0 (by decide) (by decide) ⟨Nat.le_of_ble_eq_true rfl, Nat.le_of_ble_eq_true rfl⟩ ⟨Nat.le_of_ble_eq_true rfl, Nat.le_of_ble_eq_true rfl⟩ (Nat.le_of_ble_eq_true rfl) rfl ⟨Nat.le_of_ble_eq_true rfl, Nat.le_of_ble_eq_true rfl⟩
theorem s_addMember_no2 {l : Launch} (hf : l.stackTraces = false) {M : pmM} {oc : Nat} (hoc : M.1 0 1 = nI oc) (hoc8 : oc ≤ 8) {o : Nat} (ho : o < oc) {x : Int32} (hx : ¬ vp_in x oc) : Sp l kX3_addMember 64 12 3 18 [.ref 0, .int (nI o), .int x] M (.inr "java/lang/IndexOutOfBoundsException") M := by
  refine sp_of hf (by decide +kernel) (Nat.le_of_ble_eq_true rfl) (by intro v hv; simp at hv; rcases hv with rfl | rfl | rfl <;> rfl) rfl ?_
  refine e_aload_0 dX3_addMember_0 rfl ?_
  refine e_iload_1 dX3_addMember_1 rfl ?_
  refine e_callV dX3_addMember_2 rfl csX3_50 (s_requireObject_ok hf hoc hoc8 ho) rfl rfl ps_0 (by decide) (by decide) ⟨Nat.le_of_ble_eq_true rfl, Nat.le_of_ble_eq_true rfl⟩ ⟨Nat.le_of_ble_eq_true rfl, Nat.le_of_ble_eq_true rfl⟩ rfl rfl (Nat.le_of_ble_eq_true rfl) ?_
  refine e_aload_0 dX3_addMember_5 rfl ?_
  refine e_iload_2 dX3_addMember_6 rfl ?_
  exact e_callV_x dX3_addMember_7 csX3_50 (s_requireObject_no hf hoc hoc8 hx) rfl rfl ps_0 (by decide) (by decide) ⟨Nat.le_of_ble_eq_true rfl, Nat.le_of_ble_eq_true rfl⟩ ⟨Nat.le_of_ble_eq_true rfl, Nat.le_of_ble_eq_true rfl⟩ (Nat.le_of_ble_eq_true rfl) rfl ⟨Nat.le_of_ble_eq_true rfl, Nat.le_of_ble_eq_true rfl⟩
theorem s_addMember_no3 {l : Launch} (hf : l.stackTraces = false) {M : pmM} {od : Nat → Nat} (hmr : M.2.1 = mrC od) {oc : Nat} (hoc : M.1 0 1 = nI oc) (hoc8 : oc ≤ 8) {o : Nat} (ho : o < oc) : Sp l kX3_addMember 64 12 3 18 [.ref 0, .int (nI o), .int (nI o)] M (.inr "java/lang/IllegalArgumentException") M := by
  refine sp_of hf (by decide +kernel) (Nat.le_of_ble_eq_true rfl) (by intro v hv; simp at hv; rcases hv with rfl | rfl | rfl <;> rfl) rfl ?_
  refine e_aload_0 dX3_addMember_0 rfl ?_
  refine e_iload_1 dX3_addMember_1 rfl ?_
  refine e_callV dX3_addMember_2 rfl csX3_50 (s_requireObject_ok hf hoc hoc8 ho) rfl rfl ps_0 (by decide) (by decide) ⟨Nat.le_of_ble_eq_true rfl, Nat.le_of_ble_eq_true rfl⟩ ⟨Nat.le_of_ble_eq_true rfl, Nat.le_of_ble_eq_true rfl⟩ rfl rfl (Nat.le_of_ble_eq_true rfl) ?_
  refine e_aload_0 dX3_addMember_5 rfl ?_
  refine e_iload_2 dX3_addMember_6 rfl ?_
  refine e_callV dX3_addMember_7 rfl csX3_50 (s_requireObject_ok hf hoc hoc8 ho) rfl rfl ps_0 (by decide) (by decide) ⟨Nat.le_of_ble_eq_true rfl, Nat.le_of_ble_eq_true rfl⟩ ⟨Nat.le_of_ble_eq_true rfl, Nat.le_of_ble_eq_true rfl⟩ rfl rfl (Nat.le_of_ble_eq_true rfl) ?_
  refine e_aload_0 dX3_addMember_10 rfl ?_
  refine e_getR dX3_addMember_11 rfl lkX3_11 rfl ps_0 (by decide) (by decide) (mr_of hmr rfl) ?_
  refine e_iload_1 dX3_addMember_14 rfl ?_
  refine e_aald dX3_addMember_15 rfl ps_1 (by decide) (by decide) (by decide) rfl (by omega) (mr_of hmr (mr_sets _ _)) ?_
  refine e_astore_3 dX3_addMember_16 rfl (Nat.le_of_ble_eq_true rfl) rfl ?_
  refine e_iload_1 dX3_addMember_17 rfl ?_
  refine e_iload_2 dX3_addMember_18 rfl ?_
  refine e_nc_eq_t (tgt := 33) dX3_addMember_19 (by decide) (by omega) (by omega) rfl ?_
  exact e_throw dX3_addMember_33 dX3_addMember_36 dX3_addMember_37 dX3_addMember_39 dX3_addMember_42 th_82_84_86 rfl ⟨Nat.le_of_ble_eq_true rfl, Nat.le_of_ble_eq_true rfl⟩ (Nat.le_of_ble_eq_true rfl) ⟨Nat.le_of_ble_eq_true rfl, Nat.le_of_ble_eq_true rfl⟩ ⟨Nat.le_of_ble_eq_true rfl, Nat.le_of_ble_eq_true rfl⟩ rfl
theorem s_addMember_no4 {l : Launch} (hf : l.stackTraces = false) {M : pmM} {od : Nat → Nat} (hmr : M.2.1 = mrC od) {oc : Nat} (hoc : M.1 0 1 = nI oc) (hoc8 : oc ≤ 8) {o : Nat} (ho : o < oc) {m : Nat} (hm : m < oc) (hne : o ≠ m) (hnc : hasb (M.1 (15 + 2 * o) 2) m = true) : Sp l kX3_addMember 64 12 3 18 [.ref 0, .int (nI o), .int (nI m)] M (.inr "java/lang/IllegalArgumentException") M := by
  refine sp_of hf (by decide +kernel) (Nat.le_of_ble_eq_true rfl) (by intro v hv; simp at hv; rcases hv with rfl | rfl | rfl <;> rfl) rfl ?_
  refine e_aload_0 dX3_addMember_0 rfl ?_
  refine e_iload_1 dX3_addMember_1 rfl ?_
  refine e_callV dX3_addMember_2 rfl csX3_50 (s_requireObject_ok hf hoc hoc8 ho) rfl rfl ps_0 (by decide) (by decide) ⟨Nat.le_of_ble_eq_true rfl, Nat.le_of_ble_eq_true rfl⟩ ⟨Nat.le_of_ble_eq_true rfl, Nat.le_of_ble_eq_true rfl⟩ rfl rfl (Nat.le_of_ble_eq_true rfl) ?_
  refine e_aload_0 dX3_addMember_5 rfl ?_
  refine e_iload_2 dX3_addMember_6 rfl ?_
  refine e_callV dX3_addMember_7 rfl csX3_50 (s_requireObject_ok hf hoc hoc8 hm) rfl rfl ps_0 (by decide) (by decide) ⟨Nat.le_of_ble_eq_true rfl, Nat.le_of_ble_eq_true rfl⟩ ⟨Nat.le_of_ble_eq_true rfl, Nat.le_of_ble_eq_true rfl⟩ rfl rfl (Nat.le_of_ble_eq_true rfl) ?_
  refine e_aload_0 dX3_addMember_10 rfl ?_
  refine e_getR dX3_addMember_11 rfl lkX3_11 rfl ps_0 (by decide) (by decide) (mr_of hmr rfl) ?_
  refine e_iload_1 dX3_addMember_14 rfl ?_
  refine e_aald dX3_addMember_15 rfl ps_1 (by decide) (by decide) (by decide) rfl (by omega) (mr_of hmr (mr_sets _ _)) ?_
  refine e_astore_3 dX3_addMember_16 rfl (Nat.le_of_ble_eq_true rfl) rfl ?_
  refine e_iload_1 dX3_addMember_17 rfl ?_
  refine e_iload_2 dX3_addMember_18 rfl ?_
  refine e_nc_eq_f dX3_addMember_19 rfl ⟨33, by decide⟩ (by omega) (by omega) hne ?_
  refine e_aload_3 dX3_addMember_22 rfl ?_
  refine e_getI dX3_addMember_23 rfl lkX3_75 rfl (ps_O (by omega)) (by decide) (lt_VS (by omega)) ?_
  refine e_iload_2 dX3_addMember_26 rfl ?_
  refine e_callS dX3_addMember_27 rfl csX3_78 (s_contains hf (show m < 32 by omega)) rfl rfl ⟨Nat.le_of_ble_eq_true rfl, Nat.le_of_ble_eq_true rfl⟩ ⟨Nat.le_of_ble_eq_true rfl, Nat.le_of_ble_eq_true rfl⟩ rfl rfl (Nat.le_of_ble_eq_true rfl) ?_
  refine e_if_eq_f dX3_addMember_30 rfl ⟨43, by decide⟩ (bI1 hnc) ?_
  exact e_throw dX3_addMember_33 dX3_addMember_36 dX3_addMember_37 dX3_addMember_39 dX3_addMember_42 th_82_84_86 rfl ⟨Nat.le_of_ble_eq_true rfl, Nat.le_of_ble_eq_true rfl⟩ (Nat.le_of_ble_eq_true rfl) ⟨Nat.le_of_ble_eq_true rfl, Nat.le_of_ble_eq_true rfl⟩ ⟨Nat.le_of_ble_eq_true rfl, Nat.le_of_ble_eq_true rfl⟩ rfl
theorem s_addMember_no5 {l : Launch} (hf : l.stackTraces = false) {M : pmM} {od : Nat → Nat} (hmr : M.2.1 = mrC od) {oc : Nat} (hoc : M.1 0 1 = nI oc) (hoc8 : oc ≤ 8) {o : Nat} (ho : o < oc) {m : Nat} (hm : m < oc) (hne : o ≠ m) (hnc : hasb (M.1 (15 + 2 * o) 2) m = false) (hnd : ndF M 8 m o = true) : Sp l kX3_addMember 64 12 3 18 [.ref 0, .int (nI o), .int (nI m)] M (.inr "java/lang/UnsupportedOperationException") M := by
  refine sp_of hf (by decide +kernel) (Nat.le_of_ble_eq_true rfl) (by intro v hv; simp at hv; rcases hv with rfl | rfl | rfl <;> rfl) rfl ?_
  refine e_aload_0 dX3_addMember_0 rfl ?_
  refine e_iload_1 dX3_addMember_1 rfl ?_
  refine e_callV dX3_addMember_2 rfl csX3_50 (s_requireObject_ok hf hoc hoc8 ho) rfl rfl ps_0 (by decide) (by decide) ⟨Nat.le_of_ble_eq_true rfl, Nat.le_of_ble_eq_true rfl⟩ ⟨Nat.le_of_ble_eq_true rfl, Nat.le_of_ble_eq_true rfl⟩ rfl rfl (Nat.le_of_ble_eq_true rfl) ?_
  refine e_aload_0 dX3_addMember_5 rfl ?_
  refine e_iload_2 dX3_addMember_6 rfl ?_
  refine e_callV dX3_addMember_7 rfl csX3_50 (s_requireObject_ok hf hoc hoc8 hm) rfl rfl ps_0 (by decide) (by decide) ⟨Nat.le_of_ble_eq_true rfl, Nat.le_of_ble_eq_true rfl⟩ ⟨Nat.le_of_ble_eq_true rfl, Nat.le_of_ble_eq_true rfl⟩ rfl rfl (Nat.le_of_ble_eq_true rfl) ?_
  refine e_aload_0 dX3_addMember_10 rfl ?_
  refine e_getR dX3_addMember_11 rfl lkX3_11 rfl ps_0 (by decide) (by decide) (mr_of hmr rfl) ?_
  refine e_iload_1 dX3_addMember_14 rfl ?_
  refine e_aald dX3_addMember_15 rfl ps_1 (by decide) (by decide) (by decide) rfl (by omega) (mr_of hmr (mr_sets _ _)) ?_
  refine e_astore_3 dX3_addMember_16 rfl (Nat.le_of_ble_eq_true rfl) rfl ?_
  refine e_iload_1 dX3_addMember_17 rfl ?_
  refine e_iload_2 dX3_addMember_18 rfl ?_
  refine e_nc_eq_f dX3_addMember_19 rfl ⟨33, by decide⟩ (by omega) (by omega) hne ?_
  refine e_aload_3 dX3_addMember_22 rfl ?_
  refine e_getI dX3_addMember_23 rfl lkX3_75 rfl (ps_O (by omega)) (by decide) (lt_VS (by omega)) ?_
  refine e_iload_2 dX3_addMember_26 rfl ?_
  refine e_callS dX3_addMember_27 rfl csX3_78 (s_contains hf (show m < 32 by omega)) rfl rfl ⟨Nat.le_of_ble_eq_true rfl, Nat.le_of_ble_eq_true rfl⟩ ⟨Nat.le_of_ble_eq_true rfl, Nat.le_of_ble_eq_true rfl⟩ rfl rfl (Nat.le_of_ble_eq_true rfl) ?_
  refine e_if_eq_t (tgt := 43) dX3_addMember_30 (by decide) (bI0 hnc) ?_
  refine e_aload_0 dX3_addMember_43 rfl ?_
  refine e_getR dX3_addMember_44 rfl lkX3_11 rfl ps_0 (by decide) (by decide) (mr_of hmr rfl) ?_
  refine e_iload_2 dX3_addMember_47 rfl ?_
  refine e_iload_1 dX3_addMember_48 rfl ?_
  refine e_iconst (v := nI 0) dX3_addMember_49 rfl ic_0 ?_
  refine e_callS dX3_addMember_50 rfl csX3_87 (s_needs hf hmr 8 m o 0 (by omega) (by omega) rfl) rfl rfl ⟨Nat.le_of_ble_eq_true rfl, Nat.le_of_ble_eq_true rfl⟩ ⟨Nat.le_of_ble_eq_true rfl, Nat.le_of_ble_eq_true rfl⟩ rfl rfl (Nat.le_of_ble_eq_true rfl) ?_
  refine e_if_eq_f dX3_addMember_53 rfl ⟨66, by decide⟩ (bI1 hnd) ?_
  exact e_throw dX3_addMember_56 dX3_addMember_59 dX3_addMember_60 dX3_addMember_62 dX3_addMember_65 th_91_93_95 rfl ⟨Nat.le_of_ble_eq_true rfl, Nat.le_of_ble_eq_true rfl⟩ (Nat.le_of_ble_eq_true rfl) ⟨Nat.le_of_ble_eq_true rfl, Nat.le_of_ble_eq_true rfl⟩ ⟨Nat.le_of_ble_eq_true rfl, Nat.le_of_ble_eq_true rfl⟩ rfl
theorem s_addMember_no6 {l : Launch} (hf : l.stackTraces = false) {M : pmM} {od : Nat → Nat} (hmr : M.2.1 = mrC od) {oc : Nat} (hoc : M.1 0 1 = nI oc) (hoc8 : oc ≤ 8) {o : Nat} (ho : o < oc) {m : Nat} (hm : m < oc) (hne : o ≠ m) (hnc : hasb (M.1 (15 + 2 * o) 2) m = false) (hnd : ndF M 8 m o = false) {c : Nat} (hbc : bcE (M.1 (15 + 2 * o) 2) = nI c) (hc8 : c ≤ 2) (hlt : ¬ c < 2) : Sp l kX3_addMember 64 12 3 18 [.ref 0, .int (nI o), .int (nI m)] M (.inr "java/lang/IllegalStateException") M := by
  refine sp_of hf (by decide +kernel) (Nat.le_of_ble_eq_true rfl) (by intro v hv; simp at hv; rcases hv with rfl | rfl | rfl <;> rfl) rfl ?_
  refine e_aload_0 dX3_addMember_0 rfl ?_
  refine e_iload_1 dX3_addMember_1 rfl ?_
  refine e_callV dX3_addMember_2 rfl csX3_50 (s_requireObject_ok hf hoc hoc8 ho) rfl rfl ps_0 (by decide) (by decide) ⟨Nat.le_of_ble_eq_true rfl, Nat.le_of_ble_eq_true rfl⟩ ⟨Nat.le_of_ble_eq_true rfl, Nat.le_of_ble_eq_true rfl⟩ rfl rfl (Nat.le_of_ble_eq_true rfl) ?_
  refine e_aload_0 dX3_addMember_5 rfl ?_
  refine e_iload_2 dX3_addMember_6 rfl ?_
  refine e_callV dX3_addMember_7 rfl csX3_50 (s_requireObject_ok hf hoc hoc8 hm) rfl rfl ps_0 (by decide) (by decide) ⟨Nat.le_of_ble_eq_true rfl, Nat.le_of_ble_eq_true rfl⟩ ⟨Nat.le_of_ble_eq_true rfl, Nat.le_of_ble_eq_true rfl⟩ rfl rfl (Nat.le_of_ble_eq_true rfl) ?_
  refine e_aload_0 dX3_addMember_10 rfl ?_
  refine e_getR dX3_addMember_11 rfl lkX3_11 rfl ps_0 (by decide) (by decide) (mr_of hmr rfl) ?_
  refine e_iload_1 dX3_addMember_14 rfl ?_
  refine e_aald dX3_addMember_15 rfl ps_1 (by decide) (by decide) (by decide) rfl (by omega) (mr_of hmr (mr_sets _ _)) ?_
  refine e_astore_3 dX3_addMember_16 rfl (Nat.le_of_ble_eq_true rfl) rfl ?_
  refine e_iload_1 dX3_addMember_17 rfl ?_
  refine e_iload_2 dX3_addMember_18 rfl ?_
  refine e_nc_eq_f dX3_addMember_19 rfl ⟨33, by decide⟩ (by omega) (by omega) hne ?_
  refine e_aload_3 dX3_addMember_22 rfl ?_
  refine e_getI dX3_addMember_23 rfl lkX3_75 rfl (ps_O (by omega)) (by decide) (lt_VS (by omega)) ?_
  refine e_iload_2 dX3_addMember_26 rfl ?_
  refine e_callS dX3_addMember_27 rfl csX3_78 (s_contains hf (show m < 32 by omega)) rfl rfl ⟨Nat.le_of_ble_eq_true rfl, Nat.le_of_ble_eq_true rfl⟩ ⟨Nat.le_of_ble_eq_true rfl, Nat.le_of_ble_eq_true rfl⟩ rfl rfl (Nat.le_of_ble_eq_true rfl) ?_
  refine e_if_eq_t (tgt := 43) dX3_addMember_30 (by decide) (bI0 hnc) ?_
  refine e_aload_0 dX3_addMember_43 rfl ?_
  refine e_getR dX3_addMember_44 rfl lkX3_11 rfl ps_0 (by decide) (by decide) (mr_of hmr rfl) ?_
  refine e_iload_2 dX3_addMember_47 rfl ?_
  refine e_iload_1 dX3_addMember_48 rfl ?_
  refine e_iconst (v := nI 0) dX3_addMember_49 rfl ic_0 ?_
  refine e_callS dX3_addMember_50 rfl csX3_87 (s_needs hf hmr 8 m o 0 (by omega) (by omega) rfl) rfl rfl ⟨Nat.le_of_ble_eq_true rfl, Nat.le_of_ble_eq_true rfl⟩ ⟨Nat.le_of_ble_eq_true rfl, Nat.le_of_ble_eq_true rfl⟩ rfl rfl (Nat.le_of_ble_eq_true rfl) ?_
  refine e_if_eq_t (tgt := 66) dX3_addMember_53 (by decide) (bI0 hnd) ?_
  refine e_aload_3 dX3_addMember_66 rfl ?_
  refine e_getI dX3_addMember_67 rfl lkX3_75 rfl (ps_O (by omega)) (by decide) (lt_VS (by omega)) ?_
  refine e_callS dX3_addMember_70 rfl csX3_96 (s_bitCount hf) rfl rfl ⟨Nat.le_of_ble_eq_true rfl, Nat.le_of_ble_eq_true rfl⟩ ⟨Nat.le_of_ble_eq_true rfl, Nat.le_of_ble_eq_true rfl⟩ rfl rfl (Nat.le_of_ble_eq_true rfl) ?_
  refine e_topi (nI c) hbc ?_
  refine e_iconst (v := nI 2) dX3_addMember_73 rfl ic_2 ?_
  refine e_nc_lt_f dX3_addMember_74 rfl ⟨87, by decide⟩ (by omega) (by omega) (by omega) ?_
  exact e_throw dX3_addMember_77 dX3_addMember_80 dX3_addMember_81 dX3_addMember_83 dX3_addMember_86 th_43_102_47 rfl ⟨Nat.le_of_ble_eq_true rfl, Nat.le_of_ble_eq_true rfl⟩ (Nat.le_of_ble_eq_true rfl) ⟨Nat.le_of_ble_eq_true rfl, Nat.le_of_ble_eq_true rfl⟩ ⟨Nat.le_of_ble_eq_true rfl, Nat.le_of_ble_eq_true rfl⟩ rfl
theorem s_removeMember_ok {l : Launch} (hf : l.stackTraces = false) {M : pmM} {od : Nat → Nat} (hmr : M.2.1 = mrC od) (hod : ∀ p, p < 8 → od p < 8) {rg : Nat → Nat} (hrg : ∀ o, o < 8 → M.1 (15 + 2 * o) 1 = nI (rg o) ∧ rg o ≤ 3) {rc : Nat} (hrc : M.1 0 3 = nI rc) (h8 : rc ≤ 8) (hfo : ∀ p f, p < rc → f < 3 → fOk (M.1 (32 + 3 * od p) f)) {oc : Nat} (hoc : M.1 0 1 = nI oc) (hoc8 : oc ≤ 8) {o : Nat} (ho : o < oc) {m : Nat} (hm : m < oc) (hnc : hasb (M.1 (15 + 2 * o) 2) m = true) : Sp l kX3_removeMember 64 12 3 18 [.ref 0, .int (nI o), .int (nI m)] M (.inl (some (.int (bcE (M.1 (15 + 2 * o) 2 &&& ((nI 1 <<< (nI m &&& 31)) ^^^ (-1))))))) (umM (amM M o (M.1 (15 + 2 * o) 2 &&& ((nI 1 <<< (nI m &&& 31)) ^^^ (-1)))) od rg rc) := by
  refine sp_of hf (by decide +kernel) (Nat.le_of_ble_eq_true rfl) (by intro v hv; simp at hv; rcases hv with rfl | rfl | rfl <;> rfl) rfl ?_
  have q1 : ∀ q, q < 8 → (amM M o (M.1 (15 + 2 * o) 2 &&& ((nI 1 <<< (nI m &&& 31)) ^^^ (-1)))).1 (15 + 2 * q) 1 = nI (rg q) ∧ rg q ≤ 3 := fun q hq => ⟨by show pm2 _ _ _ _ _ _ = _; rw [pm2_k (by decide)]; exact (hrg q hq).1, (hrg q hq).2⟩
  have q2 : (amM M o (M.1 (15 + 2 * o) 2 &&& ((nI 1 <<< (nI m &&& 31)) ^^^ (-1)))).1 0 3 = nI rc := by show pm2 _ _ _ _ _ _ = _; rw [pm2_n (by omega)]; exact hrc
  have q3 : ∀ p f, p < rc → f < 3 → fOk ((amM M o (M.1 (15 + 2 * o) 2 &&& ((nI 1 <<< (nI m &&& 31)) ^^^ (-1)))).1 (32 + 3 * od p) f) := fun p f h1 h2 => by show fOk (pm2 _ _ _ _ _ _); rw [pm2_n (by omega)]; exact hfo p f h1 h2
  refine e_aload_0 dX3_removeMember_0 rfl ?_
  refine e_iload_1 dX3_removeMember_1 rfl ?_
  refine e_callV dX3_removeMember_2 rfl csX3_50 (s_requireObject_ok hf hoc hoc8 ho) rfl rfl ps_0 (by decide) (by decide) ⟨Nat.le_of_ble_eq_true rfl, Nat.le_of_ble_eq_true rfl⟩ ⟨Nat.le_of_ble_eq_true rfl, Nat.le_of_ble_eq_true rfl⟩ rfl rfl (Nat.le_of_ble_eq_true rfl) ?_
  refine e_aload_0 dX3_removeMember_5 rfl ?_
  refine e_iload_2 dX3_removeMember_6 rfl ?_
  refine e_callV dX3_removeMember_7 rfl csX3_50 (s_requireObject_ok hf hoc hoc8 hm) rfl rfl ps_0 (by decide) (by decide) ⟨Nat.le_of_ble_eq_true rfl, Nat.le_of_ble_eq_true rfl⟩ ⟨Nat.le_of_ble_eq_true rfl, Nat.le_of_ble_eq_true rfl⟩ rfl rfl (Nat.le_of_ble_eq_true rfl) ?_
  refine e_aload_0 dX3_removeMember_10 rfl ?_
  refine e_getR dX3_removeMember_11 rfl lkX3_11 rfl ps_0 (by decide) (by decide) (mr_of hmr rfl) ?_
  refine e_iload_1 dX3_removeMember_14 rfl ?_
  refine e_aald dX3_removeMember_15 rfl ps_1 (by decide) (by decide) (by decide) rfl (by omega) (mr_of hmr (mr_sets _ _)) ?_
  refine e_astore_3 dX3_removeMember_16 rfl (Nat.le_of_ble_eq_true rfl) rfl ?_
  refine e_aload_3 dX3_removeMember_17 rfl ?_
  refine e_getI dX3_removeMember_18 rfl lkX3_75 rfl (ps_O (by omega)) (by decide) (lt_VS (by omega)) ?_
  refine e_iload_2 dX3_removeMember_21 rfl ?_
  refine e_callS dX3_removeMember_22 rfl csX3_78 (s_contains hf (show m < 32 by omega)) rfl rfl ⟨Nat.le_of_ble_eq_true rfl, Nat.le_of_ble_eq_true rfl⟩ ⟨Nat.le_of_ble_eq_true rfl, Nat.le_of_ble_eq_true rfl⟩ rfl rfl (Nat.le_of_ble_eq_true rfl) ?_
  refine e_if_ne_t (tgt := 38) dX3_removeMember_25 (by decide) (bI1 hnc) ?_
  refine e_aload_3 dX3_removeMember_38 rfl ?_
  refine e_dup dX3_removeMember_39 rfl rfl ?_
  refine e_getI dX3_removeMember_40 rfl lkX3_75 rfl (ps_O (by omega)) (by decide) (lt_VS (by omega)) ?_
  refine e_iconst (v := nI 1) dX3_removeMember_43 rfl ic_1 ?_
  refine e_iload_2 dX3_removeMember_44 rfl ?_
  refine e_ishl dX3_removeMember_45 rfl ?_
  refine e_iconst (v := -1) dX3_removeMember_46 rfl ic_m1 ?_
  refine e_ixor dX3_removeMember_47 rfl ?_
  refine e_iand dX3_removeMember_48 rfl ?_
  refine e_putI dX3_removeMember_49 rfl lkX3_75 rfl rfl rfl (ps_O (by omega)) (by decide) (lt_VS (by omega)) ?_
  refine e_aload_0 dX3_removeMember_52 rfl ?_
  refine e_callV dX3_removeMember_53 rfl csX3_70 (s_updateMatching (M := (amM M o (M.1 (15 + 2 * o) 2 &&& ((nI 1 <<< (nI m &&& 31)) ^^^ (-1))))) hf hmr hod q1 q2 h8 q3) rfl rfl ps_0 (by decide) (by decide) ⟨Nat.le_of_ble_eq_true rfl, Nat.le_of_ble_eq_true rfl⟩ ⟨Nat.le_of_ble_eq_true rfl, Nat.le_of_ble_eq_true rfl⟩ rfl rfl (Nat.le_of_ble_eq_true rfl) ?_
  refine e_aload_3 dX3_removeMember_56 rfl ?_
  refine e_getI dX3_removeMember_57 rfl lkX3_75 rfl (ps_O (by omega)) (by decide) (lt_VS (by omega)) ?_
  refine e_topi (M.1 (15 + 2 * o) 2 &&& ((nI 1 <<< (nI m &&& 31)) ^^^ (-1))) ((umM_no _ (Or.inr (by omega))).trans pm2_e) ?_
  refine e_callS dX3_removeMember_60 rfl csX3_96 (s_bitCount hf) rfl rfl ⟨Nat.le_of_ble_eq_true rfl, Nat.le_of_ble_eq_true rfl⟩ ⟨Nat.le_of_ble_eq_true rfl, Nat.le_of_ble_eq_true rfl⟩ rfl rfl (Nat.le_of_ble_eq_true rfl) ?_
  exact e_iret dX3_removeMember_63 rfl rfl (Nat.le_of_ble_eq_true rfl) (Nat.le_of_ble_eq_true rfl) rfl rfl
theorem s_removeMember_no1 {l : Launch} (hf : l.stackTraces = false) {M : pmM} {oc : Nat} (hoc : M.1 0 1 = nI oc) (hoc8 : oc ≤ 8) {x : Int32} (hx : ¬ vp_in x oc) {y : Int32} : Sp l kX3_removeMember 64 12 3 18 [.ref 0, .int x, .int y] M (.inr "java/lang/IndexOutOfBoundsException") M := by
  refine sp_of hf (by decide +kernel) (Nat.le_of_ble_eq_true rfl) (by intro v hv; simp at hv; rcases hv with rfl | rfl | rfl <;> rfl) rfl ?_
  refine e_aload_0 dX3_removeMember_0 rfl ?_
  refine e_iload_1 dX3_removeMember_1 rfl ?_
  exact e_callV_x dX3_removeMember_2 csX3_50 (s_requireObject_no hf hoc hoc8 hx) rfl rfl ps_0 (by decide) (by decide) ⟨Nat.le_of_ble_eq_true rfl, Nat.le_of_ble_eq_true rfl⟩ ⟨Nat.le_of_ble_eq_true rfl, Nat.le_of_ble_eq_true rfl⟩ (Nat.le_of_ble_eq_true rfl) rfl ⟨Nat.le_of_ble_eq_true rfl, Nat.le_of_ble_eq_true rfl⟩
theorem s_removeMember_no2 {l : Launch} (hf : l.stackTraces = false) {M : pmM} {oc : Nat} (hoc : M.1 0 1 = nI oc) (hoc8 : oc ≤ 8) {o : Nat} (ho : o < oc) {x : Int32} (hx : ¬ vp_in x oc) : Sp l kX3_removeMember 64 12 3 18 [.ref 0, .int (nI o), .int x] M (.inr "java/lang/IndexOutOfBoundsException") M := by
  refine sp_of hf (by decide +kernel) (Nat.le_of_ble_eq_true rfl) (by intro v hv; simp at hv; rcases hv with rfl | rfl | rfl <;> rfl) rfl ?_
  refine e_aload_0 dX3_removeMember_0 rfl ?_
  refine e_iload_1 dX3_removeMember_1 rfl ?_
  refine e_callV dX3_removeMember_2 rfl csX3_50 (s_requireObject_ok hf hoc hoc8 ho) rfl rfl ps_0 (by decide) (by decide) ⟨Nat.le_of_ble_eq_true rfl, Nat.le_of_ble_eq_true rfl⟩ ⟨Nat.le_of_ble_eq_true rfl, Nat.le_of_ble_eq_true rfl⟩ rfl rfl (Nat.le_of_ble_eq_true rfl) ?_
  refine e_aload_0 dX3_removeMember_5 rfl ?_
  refine e_iload_2 dX3_removeMember_6 rfl ?_
  exact e_callV_x dX3_removeMember_7 csX3_50 (s_requireObject_no hf hoc hoc8 hx) rfl rfl ps_0 (by decide) (by decide) ⟨Nat.le_of_ble_eq_true rfl, Nat.le_of_ble_eq_true rfl⟩ ⟨Nat.le_of_ble_eq_true rfl, Nat.le_of_ble_eq_true rfl⟩ (Nat.le_of_ble_eq_true rfl) rfl ⟨Nat.le_of_ble_eq_true rfl, Nat.le_of_ble_eq_true rfl⟩
theorem s_removeMember_no3 {l : Launch} (hf : l.stackTraces = false) {M : pmM} {od : Nat → Nat} (hmr : M.2.1 = mrC od) {oc : Nat} (hoc : M.1 0 1 = nI oc) (hoc8 : oc ≤ 8) {o : Nat} (ho : o < oc) {m : Nat} (hm : m < oc) (hnc : hasb (M.1 (15 + 2 * o) 2) m = false) : Sp l kX3_removeMember 64 12 3 18 [.ref 0, .int (nI o), .int (nI m)] M (.inr "java/util/NoSuchElementException") M := by
  refine sp_of hf (by decide +kernel) (Nat.le_of_ble_eq_true rfl) (by intro v hv; simp at hv; rcases hv with rfl | rfl | rfl <;> rfl) rfl ?_
  refine e_aload_0 dX3_removeMember_0 rfl ?_
  refine e_iload_1 dX3_removeMember_1 rfl ?_
  refine e_callV dX3_removeMember_2 rfl csX3_50 (s_requireObject_ok hf hoc hoc8 ho) rfl rfl ps_0 (by decide) (by decide) ⟨Nat.le_of_ble_eq_true rfl, Nat.le_of_ble_eq_true rfl⟩ ⟨Nat.le_of_ble_eq_true rfl, Nat.le_of_ble_eq_true rfl⟩ rfl rfl (Nat.le_of_ble_eq_true rfl) ?_
  refine e_aload_0 dX3_removeMember_5 rfl ?_
  refine e_iload_2 dX3_removeMember_6 rfl ?_
  refine e_callV dX3_removeMember_7 rfl csX3_50 (s_requireObject_ok hf hoc hoc8 hm) rfl rfl ps_0 (by decide) (by decide) ⟨Nat.le_of_ble_eq_true rfl, Nat.le_of_ble_eq_true rfl⟩ ⟨Nat.le_of_ble_eq_true rfl, Nat.le_of_ble_eq_true rfl⟩ rfl rfl (Nat.le_of_ble_eq_true rfl) ?_
  refine e_aload_0 dX3_removeMember_10 rfl ?_
  refine e_getR dX3_removeMember_11 rfl lkX3_11 rfl ps_0 (by decide) (by decide) (mr_of hmr rfl) ?_
  refine e_iload_1 dX3_removeMember_14 rfl ?_
  refine e_aald dX3_removeMember_15 rfl ps_1 (by decide) (by decide) (by decide) rfl (by omega) (mr_of hmr (mr_sets _ _)) ?_
  refine e_astore_3 dX3_removeMember_16 rfl (Nat.le_of_ble_eq_true rfl) rfl ?_
  refine e_aload_3 dX3_removeMember_17 rfl ?_
  refine e_getI dX3_removeMember_18 rfl lkX3_75 rfl (ps_O (by omega)) (by decide) (lt_VS (by omega)) ?_
  refine e_iload_2 dX3_removeMember_21 rfl ?_
  refine e_callS dX3_removeMember_22 rfl csX3_78 (s_contains hf (show m < 32 by omega)) rfl rfl ⟨Nat.le_of_ble_eq_true rfl, Nat.le_of_ble_eq_true rfl⟩ ⟨Nat.le_of_ble_eq_true rfl, Nat.le_of_ble_eq_true rfl⟩ rfl rfl (Nat.le_of_ble_eq_true rfl) ?_
  refine e_if_ne_f dX3_removeMember_25 rfl ⟨38, by decide⟩ (bI0 hnc) ?_
  exact e_throwN dX3_removeMember_28 dX3_removeMember_31 dX3_removeMember_32 dX3_removeMember_34 dX3_removeMember_37 th_104_106_108 rfl ⟨Nat.le_of_ble_eq_true rfl, Nat.le_of_ble_eq_true rfl⟩ (Nat.le_of_ble_eq_true rfl) ⟨Nat.le_of_ble_eq_true rfl, Nat.le_of_ble_eq_true rfl⟩ ⟨Nat.le_of_ble_eq_true rfl, Nat.le_of_ble_eq_true rfl⟩ rfl
theorem s_values_ok {l : Launch} (hf : l.stackTraces = false) {M : pmM} {od : Nat → Nat} (hmr : M.2.1 = mrC od) {rg : Nat → Nat} (hrg : ∀ o, o < 8 → M.1 (15 + 2 * o) 1 = nI (rg o) ∧ rg o ≤ 3) {oc : Nat} (hoc : M.1 0 1 = nI oc) (hoc8 : oc ≤ 8) {o : Nat} (ho : o < oc) : Sp l kX3_values 64 11 1 6 [.ref 0, .int (nI o)] M (.inl (some (.int (bcE (voF M rg 8 o))))) M := by
  refine sp_of hf (by decide +kernel) (Nat.le_of_ble_eq_true rfl) (by intro v hv; simp at hv; rcases hv with rfl | rfl <;> rfl) rfl ?_
  refine e_aload_0 dX3_values_0 rfl ?_
  refine e_iload_1 dX3_values_1 rfl ?_
  refine e_callV dX3_values_2 rfl csX3_50 (s_requireObject_ok hf hoc hoc8 ho) rfl rfl ps_0 (by decide) (by decide) ⟨Nat.le_of_ble_eq_true rfl, Nat.le_of_ble_eq_true rfl⟩ ⟨Nat.le_of_ble_eq_true rfl, Nat.le_of_ble_eq_true rfl⟩ rfl rfl (Nat.le_of_ble_eq_true rfl) ?_
  refine e_aload_0 dX3_values_5 rfl ?_
  refine e_getR dX3_values_6 rfl lkX3_11 rfl ps_0 (by decide) (by decide) (mr_of hmr rfl) ?_
  refine e_iload_1 dX3_values_9 rfl ?_
  refine e_iconst (v := nI 0) dX3_values_10 rfl ic_0 ?_
  refine e_callS dX3_values_11 rfl csX3_109 (s_valuesOf hf hmr hrg 8 o 0 (by omega) rfl) rfl rfl ⟨Nat.le_of_ble_eq_true rfl, Nat.le_of_ble_eq_true rfl⟩ ⟨Nat.le_of_ble_eq_true rfl, Nat.le_of_ble_eq_true rfl⟩ rfl rfl (Nat.le_of_ble_eq_true rfl) ?_
  refine e_callS dX3_values_14 rfl csX3_96 (s_bitCount hf) rfl rfl ⟨Nat.le_of_ble_eq_true rfl, Nat.le_of_ble_eq_true rfl⟩ ⟨Nat.le_of_ble_eq_true rfl, Nat.le_of_ble_eq_true rfl⟩ rfl rfl (Nat.le_of_ble_eq_true rfl) ?_
  exact e_iret dX3_values_17 rfl rfl (Nat.le_of_ble_eq_true rfl) (Nat.le_of_ble_eq_true rfl) rfl rfl
theorem s_values_no {l : Launch} (hf : l.stackTraces = false) {M : pmM} {oc : Nat} (hoc : M.1 0 1 = nI oc) (hoc8 : oc ≤ 8) {x : Int32} (hx : ¬ vp_in x oc) : Sp l kX3_values 64 11 1 6 [.ref 0, .int x] M (.inr "java/lang/IndexOutOfBoundsException") M := by
  refine sp_of hf (by decide +kernel) (Nat.le_of_ble_eq_true rfl) (by intro v hv; simp at hv; rcases hv with rfl | rfl <;> rfl) rfl ?_
  refine e_aload_0 dX3_values_0 rfl ?_
  refine e_iload_1 dX3_values_1 rfl ?_
  exact e_callV_x dX3_values_2 csX3_50 (s_requireObject_no hf hoc hoc8 hx) rfl rfl ps_0 (by decide) (by decide) ⟨Nat.le_of_ble_eq_true rfl, Nat.le_of_ble_eq_true rfl⟩ ⟨Nat.le_of_ble_eq_true rfl, Nat.le_of_ble_eq_true rfl⟩ (Nat.le_of_ble_eq_true rfl) rfl ⟨Nat.le_of_ble_eq_true rfl, Nat.le_of_ble_eq_true rfl⟩
theorem s_hasValue_ok {l : Launch} (hf : l.stackTraces = false) {M : pmM} {od : Nat → Nat} (hmr : M.2.1 = mrC od) {rg : Nat → Nat} (hrg : ∀ o, o < 8 → M.1 (15 + 2 * o) 1 = nI (rg o) ∧ rg o ≤ 3) {oc : Nat} (hoc : M.1 0 1 = nI oc) (hoc8 : oc ≤ 8) {o : Nat} (ho : o < oc) {v : Nat} (hv : v < 32) : Sp l kX3_hasValue 64 11 2 12 [.ref 0, .int (nI o), .int (nI v)] M (.inl (some (.int (bI (hasb (voF M rg 8 o) v))))) M := by
  refine sp_of hf (by decide +kernel) (Nat.le_of_ble_eq_true rfl) (by intro v hv; simp at hv; rcases hv with rfl | rfl | rfl <;> rfl) rfl ?_
  refine e_aload_0 dX3_hasValue_0 rfl ?_
  refine e_iload_1 dX3_hasValue_1 rfl ?_
  refine e_callV dX3_hasValue_2 rfl csX3_50 (s_requireObject_ok hf hoc hoc8 ho) rfl rfl ps_0 (by decide) (by decide) ⟨Nat.le_of_ble_eq_true rfl, Nat.le_of_ble_eq_true rfl⟩ ⟨Nat.le_of_ble_eq_true rfl, Nat.le_of_ble_eq_true rfl⟩ rfl rfl (Nat.le_of_ble_eq_true rfl) ?_
  refine e_iload_2 dX3_hasValue_5 rfl ?_
  refine e_callS dX3_hasValue_6 rfl csX3_113 (s_requireValue_ok hf hv) rfl rfl ⟨Nat.le_of_ble_eq_true rfl, Nat.le_of_ble_eq_true rfl⟩ ⟨Nat.le_of_ble_eq_true rfl, Nat.le_of_ble_eq_true rfl⟩ rfl rfl (Nat.le_of_ble_eq_true rfl) ?_
  refine e_aload_0 dX3_hasValue_9 rfl ?_
  refine e_getR dX3_hasValue_10 rfl lkX3_11 rfl ps_0 (by decide) (by decide) (mr_of hmr rfl) ?_
  refine e_iload_1 dX3_hasValue_13 rfl ?_
  refine e_iconst (v := nI 0) dX3_hasValue_14 rfl ic_0 ?_
  refine e_callS dX3_hasValue_15 rfl csX3_109 (s_valuesOf hf hmr hrg 8 o 0 (by omega) rfl) rfl rfl ⟨Nat.le_of_ble_eq_true rfl, Nat.le_of_ble_eq_true rfl⟩ ⟨Nat.le_of_ble_eq_true rfl, Nat.le_of_ble_eq_true rfl⟩ rfl rfl (Nat.le_of_ble_eq_true rfl) ?_
  refine e_iload_2 dX3_hasValue_18 rfl ?_
  refine e_callS dX3_hasValue_19 rfl csX3_78 (s_contains hf hv) rfl rfl ⟨Nat.le_of_ble_eq_true rfl, Nat.le_of_ble_eq_true rfl⟩ ⟨Nat.le_of_ble_eq_true rfl, Nat.le_of_ble_eq_true rfl⟩ rfl rfl (Nat.le_of_ble_eq_true rfl) ?_
  exact e_iret dX3_hasValue_22 rfl (bI_nar _) (Nat.le_of_ble_eq_true rfl) (Nat.le_of_ble_eq_true rfl) rfl rfl
theorem s_hasValue_no1 {l : Launch} (hf : l.stackTraces = false) {M : pmM} {oc : Nat} (hoc : M.1 0 1 = nI oc) (hoc8 : oc ≤ 8) {x : Int32} (hx : ¬ vp_in x oc) {y : Int32} : Sp l kX3_hasValue 64 11 2 12 [.ref 0, .int x, .int y] M (.inr "java/lang/IndexOutOfBoundsException") M := by
  refine sp_of hf (by decide +kernel) (Nat.le_of_ble_eq_true rfl) (by intro v hv; simp at hv; rcases hv with rfl | rfl | rfl <;> rfl) rfl ?_
  refine e_aload_0 dX3_hasValue_0 rfl ?_
  refine e_iload_1 dX3_hasValue_1 rfl ?_
  exact e_callV_x dX3_hasValue_2 csX3_50 (s_requireObject_no hf hoc hoc8 hx) rfl rfl ps_0 (by decide) (by decide) ⟨Nat.le_of_ble_eq_true rfl, Nat.le_of_ble_eq_true rfl⟩ ⟨Nat.le_of_ble_eq_true rfl, Nat.le_of_ble_eq_true rfl⟩ (Nat.le_of_ble_eq_true rfl) rfl ⟨Nat.le_of_ble_eq_true rfl, Nat.le_of_ble_eq_true rfl⟩
theorem s_hasValue_no2 {l : Launch} (hf : l.stackTraces = false) {M : pmM} {oc : Nat} (hoc : M.1 0 1 = nI oc) (hoc8 : oc ≤ 8) {o : Nat} (ho : o < oc) {x : Int32} (hx : ¬ vp_in x 32) : Sp l kX3_hasValue 64 11 2 12 [.ref 0, .int (nI o), .int x] M (.inr "java/lang/IllegalArgumentException") M := by
  refine sp_of hf (by decide +kernel) (Nat.le_of_ble_eq_true rfl) (by intro v hv; simp at hv; rcases hv with rfl | rfl | rfl <;> rfl) rfl ?_
  refine e_aload_0 dX3_hasValue_0 rfl ?_
  refine e_iload_1 dX3_hasValue_1 rfl ?_
  refine e_callV dX3_hasValue_2 rfl csX3_50 (s_requireObject_ok hf hoc hoc8 ho) rfl rfl ps_0 (by decide) (by decide) ⟨Nat.le_of_ble_eq_true rfl, Nat.le_of_ble_eq_true rfl⟩ ⟨Nat.le_of_ble_eq_true rfl, Nat.le_of_ble_eq_true rfl⟩ rfl rfl (Nat.le_of_ble_eq_true rfl) ?_
  refine e_iload_2 dX3_hasValue_5 rfl ?_
  exact e_callS_x dX3_hasValue_6 csX3_113 (s_requireValue_no hf hx) rfl rfl ⟨Nat.le_of_ble_eq_true rfl, Nat.le_of_ble_eq_true rfl⟩ ⟨Nat.le_of_ble_eq_true rfl, Nat.le_of_ble_eq_true rfl⟩ (Nat.le_of_ble_eq_true rfl) rfl ⟨Nat.le_of_ble_eq_true rfl, Nat.le_of_ble_eq_true rfl⟩
theorem s_users_ok {l : Launch} (hf : l.stackTraces = false) {M : pmM} {od : Nat → Nat} (hmr : M.2.1 = mrC od) (hod : ∀ p, p < 8 → od p < 8) {rc : Nat} (hrc : M.1 0 3 = nI rc) (h8 : rc ≤ 8) (hfo : ∀ p f, p < rc → f < 3 → fOk (M.1 (32 + 3 * od p) f)) {oc : Nat} (hoc : M.1 0 1 = nI oc) (hoc8 : oc ≤ 8) {o : Nat} (ho : o < oc) : Sp l kX3_users 64 11 1 6 [.ref 0, .int (nI o)] M (.inl (some (.int (nI (cntN (usB M od o) rc))))) M := by
  refine sp_of hf (by decide +kernel) (Nat.le_of_ble_eq_true rfl) (by intro v hv; simp at hv; rcases hv with rfl | rfl <;> rfl) rfl ?_
  refine e_aload_0 dX3_users_0 rfl ?_
  refine e_iload_1 dX3_users_1 rfl ?_
  refine e_callV dX3_users_2 rfl csX3_50 (s_requireObject_ok hf hoc hoc8 ho) rfl rfl ps_0 (by decide) (by decide) ⟨Nat.le_of_ble_eq_true rfl, Nat.le_of_ble_eq_true rfl⟩ ⟨Nat.le_of_ble_eq_true rfl, Nat.le_of_ble_eq_true rfl⟩ rfl rfl (Nat.le_of_ble_eq_true rfl) ?_
  refine e_iconst (v := nI 0) dX3_users_5 rfl ic_0 ?_
  refine e_istore_2 dX3_users_6 rfl (Nat.le_of_ble_eq_true rfl) rfl ?_
  refine e_iconst (v := nI 0) dX3_users_7 rfl ic_0 ?_
  refine e_istore_3 dX3_users_8 rfl (Nat.le_of_ble_eq_true rfl) rfl ?_
  refine loop_up (P := fun i => Ev l kX3_users (gM 64 1 6 (.inl (some (.int (nI (cntN (usB M od o) rc))))) M) (rmd 11 1 6) 64 1 6 9 [some (.ref 0), some (.int (nI o)), some (.int (nI (cntN (usB M od o) i))), some (.int (nI i)), none] [] M) ?_ (fun i hi ih => ?_) 0 (Nat.zero_le rc)
  · refine e_iload_3 dX3_users_9 rfl ?_
    refine e_aload_0 dX3_users_10 rfl ?_
    refine e_getI dX3_users_11 rfl lkX3_116 rfl ps_0 (by decide) (by decide) ?_
    refine e_topi (nI rc) hrc ?_
    refine e_nc_ge_t (tgt := 73) dX3_users_14 (by decide) (by omega) (by omega) (Nat.le_refl _) ?_
    refine e_iload_2 dX3_users_73 rfl ?_
    exact e_iret dX3_users_74 rfl rfl (Nat.le_of_ble_eq_true rfl) (Nat.le_of_ble_eq_true rfl) rfl rfl
  · cases h1 : ionF M (M.1 (32 + 3 * od i) 0) o with
    | true =>
      refine e_iload_3 dX3_users_9 rfl ?_
      refine e_aload_0 dX3_users_10 rfl ?_
      refine e_getI dX3_users_11 rfl lkX3_116 rfl ps_0 (by decide) (by decide) ?_
      refine e_topi (nI rc) hrc ?_
      refine e_nc_ge_f dX3_users_14 rfl ⟨73, by decide⟩ (by omega) (by omega) hi ?_
      refine e_aload_0 dX3_users_17 rfl ?_
      refine e_getR dX3_users_18 rfl lkX3_17 rfl ps_0 (by decide) (by decide) (mr_of hmr rfl) ?_
      refine e_iload_3 dX3_users_21 rfl ?_
      refine e_aald dX3_users_22 rfl ps_2 (by decide) (by decide) (by decide) rfl (by omega) (mr_of hmr (mr_order _ _)) ?_
      refine e_getR dX3_users_23 rfl lkX3_119 rfl (ps_R (hod _ (by omega))) (by decide) (lt_RU (hod _ (by omega))) (mr_of hmr (mr_R8 _ (hod _ (by omega)))) ?_
      refine e_astore_4 dX3_users_26 rfl (Nat.le_of_ble_eq_true rfl) rfl ?_
      refine e_aload_0 dX3_users_28 rfl ?_
      refine e_aload_4 dX3_users_29 rfl ?_
      refine e_iconst (v := nI 0) dX3_users_31 rfl ic_0 ?_
      refine e_iald dX3_users_32 rfl (ps_B (hod _ (by omega))) (lt_RB (hod _ (by omega))) rfl (by omega) ?_
      refine e_iload_1 dX3_users_33 rfl ?_
      refine e_callV dX3_users_34 rfl csX3_122 (s_isOrNeeds hf hmr (hfo i 0 hi (by decide)) (by omega)) rfl rfl ps_0 (by decide) (by decide) ⟨Nat.le_of_ble_eq_true rfl, Nat.le_of_ble_eq_true rfl⟩ ⟨Nat.le_of_ble_eq_true rfl, Nat.le_of_ble_eq_true rfl⟩ rfl rfl (Nat.le_of_ble_eq_true rfl) ?_
      refine e_if_ne_t (tgt := 64) dX3_users_37 (by decide) (bI1 h1) ?_
      refine e_iinc_2 (v := nI (cntN (usB M od o) i + 1)) dX3_users_64 rfl (Nat.le_of_ble_eq_true rfl) rfl (nI_1 (cntN (usB M od o) i)) ?_
      refine e_iinc_3 (v := nI (i + 1)) dX3_users_67 rfl (Nat.le_of_ble_eq_true rfl) rfl (nI_1 i) ?_
      refine e_goto (tgt := 9) dX3_users_70 (by decide) ?_
      refine e_weak (weak_c (weak_c (weak_c (weak_c (weak_n weak_nil))))) ?_
      refine e_loc ?_ ih
      rw [cntN, if_pos (show usB M od o i = true by unfold usB; rw [h1, Bool.true_or])]
    | false =>
      cases h2 : ionF M (M.1 (32 + 3 * od i) 1) o with
      | true =>
        refine e_iload_3 dX3_users_9 rfl ?_
        refine e_aload_0 dX3_users_10 rfl ?_
        refine e_getI dX3_users_11 rfl lkX3_116 rfl ps_0 (by decide) (by decide) ?_
        refine e_topi (nI rc) hrc ?_
        refine e_nc_ge_f dX3_users_14 rfl ⟨73, by decide⟩ (by omega) (by omega) hi ?_
        refine e_aload_0 dX3_users_17 rfl ?_
        refine e_getR dX3_users_18 rfl lkX3_17 rfl ps_0 (by decide) (by decide) (mr_of hmr rfl) ?_
        refine e_iload_3 dX3_users_21 rfl ?_
        refine e_aald dX3_users_22 rfl ps_2 (by decide) (by decide) (by decide) rfl (by omega) (mr_of hmr (mr_order _ _)) ?_
        refine e_getR dX3_users_23 rfl lkX3_119 rfl (ps_R (hod _ (by omega))) (by decide) (lt_RU (hod _ (by omega))) (mr_of hmr (mr_R8 _ (hod _ (by omega)))) ?_
        refine e_astore_4 dX3_users_26 rfl (Nat.le_of_ble_eq_true rfl) rfl ?_
        refine e_aload_0 dX3_users_28 rfl ?_
        refine e_aload_4 dX3_users_29 rfl ?_
        refine e_iconst (v := nI 0) dX3_users_31 rfl ic_0 ?_
        refine e_iald dX3_users_32 rfl (ps_B (hod _ (by omega))) (lt_RB (hod _ (by omega))) rfl (by omega) ?_
        refine e_iload_1 dX3_users_33 rfl ?_
        refine e_callV dX3_users_34 rfl csX3_122 (s_isOrNeeds hf hmr (hfo i 0 hi (by decide)) (by omega)) rfl rfl ps_0 (by decide) (by decide) ⟨Nat.le_of_ble_eq_true rfl, Nat.le_of_ble_eq_true rfl⟩ ⟨Nat.le_of_ble_eq_true rfl, Nat.le_of_ble_eq_true rfl⟩ rfl rfl (Nat.le_of_ble_eq_true rfl) ?_
        refine e_if_ne_f dX3_users_37 rfl ⟨64, by decide⟩ (bI0 h1) ?_
        refine e_aload_0 dX3_users_40 rfl ?_
        refine e_aload_4 dX3_users_41 rfl ?_
        refine e_iconst (v := nI 1) dX3_users_43 rfl ic_1 ?_
        refine e_iald dX3_users_44 rfl (ps_B (hod _ (by omega))) (lt_RB (hod _ (by omega))) rfl (by omega) ?_
        refine e_iload_1 dX3_users_45 rfl ?_
        refine e_callV dX3_users_46 rfl csX3_122 (s_isOrNeeds hf hmr (hfo i 1 hi (by decide)) (by omega)) rfl rfl ps_0 (by decide) (by decide) ⟨Nat.le_of_ble_eq_true rfl, Nat.le_of_ble_eq_true rfl⟩ ⟨Nat.le_of_ble_eq_true rfl, Nat.le_of_ble_eq_true rfl⟩ rfl rfl (Nat.le_of_ble_eq_true rfl) ?_
        refine e_if_ne_t (tgt := 64) dX3_users_49 (by decide) (bI1 h2) ?_
        refine e_iinc_2 (v := nI (cntN (usB M od o) i + 1)) dX3_users_64 rfl (Nat.le_of_ble_eq_true rfl) rfl (nI_1 (cntN (usB M od o) i)) ?_
        refine e_iinc_3 (v := nI (i + 1)) dX3_users_67 rfl (Nat.le_of_ble_eq_true rfl) rfl (nI_1 i) ?_
        refine e_goto (tgt := 9) dX3_users_70 (by decide) ?_
        refine e_weak (weak_c (weak_c (weak_c (weak_c (weak_n weak_nil))))) ?_
        refine e_loc ?_ ih
        rw [cntN, if_pos (show usB M od o i = true by unfold usB; rw [h1, h2, Bool.true_or, Bool.false_or])]
      | false =>
        cases h3 : ionF M (M.1 (32 + 3 * od i) 2) o with
        | true =>
          refine e_iload_3 dX3_users_9 rfl ?_
          refine e_aload_0 dX3_users_10 rfl ?_
          refine e_getI dX3_users_11 rfl lkX3_116 rfl ps_0 (by decide) (by decide) ?_
          refine e_topi (nI rc) hrc ?_
          refine e_nc_ge_f dX3_users_14 rfl ⟨73, by decide⟩ (by omega) (by omega) hi ?_
          refine e_aload_0 dX3_users_17 rfl ?_
          refine e_getR dX3_users_18 rfl lkX3_17 rfl ps_0 (by decide) (by decide) (mr_of hmr rfl) ?_
          refine e_iload_3 dX3_users_21 rfl ?_
          refine e_aald dX3_users_22 rfl ps_2 (by decide) (by decide) (by decide) rfl (by omega) (mr_of hmr (mr_order _ _)) ?_
          refine e_getR dX3_users_23 rfl lkX3_119 rfl (ps_R (hod _ (by omega))) (by decide) (lt_RU (hod _ (by omega))) (mr_of hmr (mr_R8 _ (hod _ (by omega)))) ?_
          refine e_astore_4 dX3_users_26 rfl (Nat.le_of_ble_eq_true rfl) rfl ?_
          refine e_aload_0 dX3_users_28 rfl ?_
          refine e_aload_4 dX3_users_29 rfl ?_
          refine e_iconst (v := nI 0) dX3_users_31 rfl ic_0 ?_
          refine e_iald dX3_users_32 rfl (ps_B (hod _ (by omega))) (lt_RB (hod _ (by omega))) rfl (by omega) ?_
          refine e_iload_1 dX3_users_33 rfl ?_
          refine e_callV dX3_users_34 rfl csX3_122 (s_isOrNeeds hf hmr (hfo i 0 hi (by decide)) (by omega)) rfl rfl ps_0 (by decide) (by decide) ⟨Nat.le_of_ble_eq_true rfl, Nat.le_of_ble_eq_true rfl⟩ ⟨Nat.le_of_ble_eq_true rfl, Nat.le_of_ble_eq_true rfl⟩ rfl rfl (Nat.le_of_ble_eq_true rfl) ?_
          refine e_if_ne_f dX3_users_37 rfl ⟨64, by decide⟩ (bI0 h1) ?_
          refine e_aload_0 dX3_users_40 rfl ?_
          refine e_aload_4 dX3_users_41 rfl ?_
          refine e_iconst (v := nI 1) dX3_users_43 rfl ic_1 ?_
          refine e_iald dX3_users_44 rfl (ps_B (hod _ (by omega))) (lt_RB (hod _ (by omega))) rfl (by omega) ?_
          refine e_iload_1 dX3_users_45 rfl ?_
          refine e_callV dX3_users_46 rfl csX3_122 (s_isOrNeeds hf hmr (hfo i 1 hi (by decide)) (by omega)) rfl rfl ps_0 (by decide) (by decide) ⟨Nat.le_of_ble_eq_true rfl, Nat.le_of_ble_eq_true rfl⟩ ⟨Nat.le_of_ble_eq_true rfl, Nat.le_of_ble_eq_true rfl⟩ rfl rfl (Nat.le_of_ble_eq_true rfl) ?_
          refine e_if_ne_f dX3_users_49 rfl ⟨64, by decide⟩ (bI0 h2) ?_
          refine e_aload_0 dX3_users_52 rfl ?_
          refine e_aload_4 dX3_users_53 rfl ?_
          refine e_iconst (v := nI 2) dX3_users_55 rfl ic_2 ?_
          refine e_iald dX3_users_56 rfl (ps_B (hod _ (by omega))) (lt_RB (hod _ (by omega))) rfl (by omega) ?_
          refine e_iload_1 dX3_users_57 rfl ?_
          refine e_callV dX3_users_58 rfl csX3_122 (s_isOrNeeds hf hmr (hfo i 2 hi (by decide)) (by omega)) rfl rfl ps_0 (by decide) (by decide) ⟨Nat.le_of_ble_eq_true rfl, Nat.le_of_ble_eq_true rfl⟩ ⟨Nat.le_of_ble_eq_true rfl, Nat.le_of_ble_eq_true rfl⟩ rfl rfl (Nat.le_of_ble_eq_true rfl) ?_
          refine e_if_eq_f dX3_users_61 rfl ⟨67, by decide⟩ (bI1 h3) ?_
          refine e_iinc_2 (v := nI (cntN (usB M od o) i + 1)) dX3_users_64 rfl (Nat.le_of_ble_eq_true rfl) rfl (nI_1 (cntN (usB M od o) i)) ?_
          refine e_iinc_3 (v := nI (i + 1)) dX3_users_67 rfl (Nat.le_of_ble_eq_true rfl) rfl (nI_1 i) ?_
          refine e_goto (tgt := 9) dX3_users_70 (by decide) ?_
          refine e_weak (weak_c (weak_c (weak_c (weak_c (weak_n weak_nil))))) ?_
          refine e_loc ?_ ih
          rw [cntN, if_pos (show usB M od o i = true by unfold usB; rw [h1, h2, h3, Bool.false_or, Bool.false_or])]
        | false =>
          refine e_iload_3 dX3_users_9 rfl ?_
          refine e_aload_0 dX3_users_10 rfl ?_
          refine e_getI dX3_users_11 rfl lkX3_116 rfl ps_0 (by decide) (by decide) ?_
          refine e_topi (nI rc) hrc ?_
          refine e_nc_ge_f dX3_users_14 rfl ⟨73, by decide⟩ (by omega) (by omega) hi ?_
          refine e_aload_0 dX3_users_17 rfl ?_
          refine e_getR dX3_users_18 rfl lkX3_17 rfl ps_0 (by decide) (by decide) (mr_of hmr rfl) ?_
          refine e_iload_3 dX3_users_21 rfl ?_
          refine e_aald dX3_users_22 rfl ps_2 (by decide) (by decide) (by decide) rfl (by omega) (mr_of hmr (mr_order _ _)) ?_
          refine e_getR dX3_users_23 rfl lkX3_119 rfl (ps_R (hod _ (by omega))) (by decide) (lt_RU (hod _ (by omega))) (mr_of hmr (mr_R8 _ (hod _ (by omega)))) ?_
          refine e_astore_4 dX3_users_26 rfl (Nat.le_of_ble_eq_true rfl) rfl ?_
          refine e_aload_0 dX3_users_28 rfl ?_
          refine e_aload_4 dX3_users_29 rfl ?_
          refine e_iconst (v := nI 0) dX3_users_31 rfl ic_0 ?_
          refine e_iald dX3_users_32 rfl (ps_B (hod _ (by omega))) (lt_RB (hod _ (by omega))) rfl (by omega) ?_
          refine e_iload_1 dX3_users_33 rfl ?_
          refine e_callV dX3_users_34 rfl csX3_122 (s_isOrNeeds hf hmr (hfo i 0 hi (by decide)) (by omega)) rfl rfl ps_0 (by decide) (by decide) ⟨Nat.le_of_ble_eq_true rfl, Nat.le_of_ble_eq_true rfl⟩ ⟨Nat.le_of_ble_eq_true rfl, Nat.le_of_ble_eq_true rfl⟩ rfl rfl (Nat.le_of_ble_eq_true rfl) ?_
          refine e_if_ne_f dX3_users_37 rfl ⟨64, by decide⟩ (bI0 h1) ?_
          refine e_aload_0 dX3_users_40 rfl ?_
          refine e_aload_4 dX3_users_41 rfl ?_
          refine e_iconst (v := nI 1) dX3_users_43 rfl ic_1 ?_
          refine e_iald dX3_users_44 rfl (ps_B (hod _ (by omega))) (lt_RB (hod _ (by omega))) rfl (by omega) ?_
          refine e_iload_1 dX3_users_45 rfl ?_
          refine e_callV dX3_users_46 rfl csX3_122 (s_isOrNeeds hf hmr (hfo i 1 hi (by decide)) (by omega)) rfl rfl ps_0 (by decide) (by decide) ⟨Nat.le_of_ble_eq_true rfl, Nat.le_of_ble_eq_true rfl⟩ ⟨Nat.le_of_ble_eq_true rfl, Nat.le_of_ble_eq_true rfl⟩ rfl rfl (Nat.le_of_ble_eq_true rfl) ?_
          refine e_if_ne_f dX3_users_49 rfl ⟨64, by decide⟩ (bI0 h2) ?_
          refine e_aload_0 dX3_users_52 rfl ?_
          refine e_aload_4 dX3_users_53 rfl ?_
          refine e_iconst (v := nI 2) dX3_users_55 rfl ic_2 ?_
          refine e_iald dX3_users_56 rfl (ps_B (hod _ (by omega))) (lt_RB (hod _ (by omega))) rfl (by omega) ?_
          refine e_iload_1 dX3_users_57 rfl ?_
          refine e_callV dX3_users_58 rfl csX3_122 (s_isOrNeeds hf hmr (hfo i 2 hi (by decide)) (by omega)) rfl rfl ps_0 (by decide) (by decide) ⟨Nat.le_of_ble_eq_true rfl, Nat.le_of_ble_eq_true rfl⟩ ⟨Nat.le_of_ble_eq_true rfl, Nat.le_of_ble_eq_true rfl⟩ rfl rfl (Nat.le_of_ble_eq_true rfl) ?_
          refine e_if_eq_t (tgt := 67) dX3_users_61 (by decide) (bI0 h3) ?_
          refine e_iinc_3 (v := nI (i + 1)) dX3_users_67 rfl (Nat.le_of_ble_eq_true rfl) rfl (nI_1 i) ?_
          refine e_goto (tgt := 9) dX3_users_70 (by decide) ?_
          refine e_weak (weak_c (weak_c (weak_c (weak_c (weak_n weak_nil))))) ?_
          refine e_loc ?_ ih
          rw [cntN, if_neg (show ¬ usB M od o i = true by unfold usB; rw [h1, h2, h3, Bool.false_or, Bool.false_or]; decide)]
theorem s_users_no {l : Launch} (hf : l.stackTraces = false) {M : pmM} {oc : Nat} (hoc : M.1 0 1 = nI oc) (hoc8 : oc ≤ 8) {x : Int32} (hx : ¬ vp_in x oc) : Sp l kX3_users 64 11 1 6 [.ref 0, .int x] M (.inr "java/lang/IndexOutOfBoundsException") M := by
  refine sp_of hf (by decide +kernel) (Nat.le_of_ble_eq_true rfl) (by intro v hv; simp at hv; rcases hv with rfl | rfl <;> rfl) rfl ?_
  refine e_aload_0 dX3_users_0 rfl ?_
  refine e_iload_1 dX3_users_1 rfl ?_
  exact e_callV_x dX3_users_2 csX3_50 (s_requireObject_no hf hoc hoc8 hx) rfl rfl ps_0 (by decide) (by decide) ⟨Nat.le_of_ble_eq_true rfl, Nat.le_of_ble_eq_true rfl⟩ ⟨Nat.le_of_ble_eq_true rfl, Nat.le_of_ble_eq_true rfl⟩ (Nat.le_of_ble_eq_true rfl) rfl ⟨Nat.le_of_ble_eq_true rfl, Nat.le_of_ble_eq_true rfl⟩
