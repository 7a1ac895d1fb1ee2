/-! ===== the model: the calls about objects ===== -/
theorem in31_n {a : Nat} {y : Int32} (ha : a < 32) (h : ∀ b : Nat, a ≤ b → b < 32 → y ≠ nI b) : ¬ (nI a ≤ y ∧ y ≤ nI 31) := fun ⟨q1, q2⟩ => by
  obtain ⟨j, hj, rfl⟩ := nI_of (show ¬ y < 0 from fun z => by
    have h1 := Int32.lt_of_le_of_lt q1 z
    have h2 : ¬ nI a < nI 0 := nI_nlt (Nat.zero_le a) (by omega)
    exact h2 h1)
  have h1 := (nI_leI (by omega) hj).mp q1
  have h2 := (nI_leI hj (by decide)).mp q2
  exact h j h1 (by omega) rfl
def moM (M : pmM) (oc : Nat) : pmM := (pm2 (cdM M 0).1 64 2 (nI (oc + 1)), M.2)
def mrM (M : pmM) (o r a b : Nat) : pmM := (pm2 (pm2 (pm2 (cdM M 0).1 66 (3 * o + r) (nI a)) 67 (3 * o + r) (nI b)) 65 o (nI (r + 1)), M.2)
def mqM (M : pmM) (o r : Nat) : pmM := (pm2 (cdM M 0).1 65 o (nI (r - 1)), M.2)
def mmM (M : pmM) (o c m : Nat) : pmM := (pm2 (pm2 (cdM M 0).1 69 (2 * o + c) (nI m)) 68 o (nI (c + 1)), M.2)
def mnM (M : pmM) (o k c : Nat) : pmM := (pm2 (if k = 0 then pm2 (cdM M 0).1 69 (2 * o) (M.1 69 (2 * o + 1)) else (cdM M 0).1) 68 o (nI (c - 1)), M.2)
def muF (M : pmM) (mo : Nat → Nat) (D : Int32) (p f : Nat) : Bool := !decide (M.1 74 (3 * mo p + f) = -1) && hasb D (ixN (M.1 74 (3 * mo p + f)))
def muB (M : pmM) (mo : Nat → Nat) (D : Int32) (p : Nat) : Bool := anyB (muF M mo D p) 3
theorem m_addObject_ok {l : Launch} (hf : l.stackTraces = false) {M : pmM} {od : Nat → Nat} (hmr : M.2.1 = mrC od) {oc : Nat} (hoc : M.1 64 2 = nI oc) (hoc8 : oc ≤ 8) (hlt : oc < 8) : Sp l kX4_addObject 86 1 0 0 [.ref 64] M (.inl (some (.int (nI oc)))) (moM M oc) := by
  refine sp_of hf (by decide +kernel) (Nat.le_of_ble_eq_true rfl) (by intro v hv; simp at hv; subst hv; rfl) rfl ?_
  refine e_aload_0 dX4_addObject_0 rfl ?_
  refine e_iconst (v := nI 0) dX4_addObject_1 rfl ic_0 ?_
  refine e_putI dX4_addObject_2 rfl lkX4_68 rfl rfl rfl ps_64 (by decide) (by decide) ?_
  refine e_aload_0 dX4_addObject_5 rfl ?_
  refine e_getI dX4_addObject_6 rfl lkX4_72 rfl ps_64 (by decide) (by decide) ?_
  refine e_topi (nI oc) hoc ?_
  refine e_bipush (v := nI 8) dX4_addObject_9 rfl bc_8 ?_
  refine e_nc_ne_t (tgt := 20) dX4_addObject_11 (by decide) (by omega) (by omega) (by omega) ?_
  refine e_aload_0 dX4_addObject_20 rfl ?_
  refine e_dup dX4_addObject_21 rfl rfl ?_
  refine e_getI dX4_addObject_22 rfl lkX4_72 rfl ps_64 (by decide) (by decide) ?_
  refine e_topi (nI oc) hoc ?_
  refine e_iconst (v := nI 1) dX4_addObject_25 rfl ic_1 ?_
  refine e_iadd dX4_addObject_26 rfl ?_
  refine e_topi (nI (oc + 1)) (nI_add _ _) ?_
  refine e_putI dX4_addObject_27 rfl lkX4_72 rfl rfl rfl ps_64 (by decide) (by decide) ?_
  refine e_aload_0 dX4_addObject_30 rfl ?_
  refine e_getI dX4_addObject_31 rfl lkX4_72 rfl ps_64 (by decide) (by decide) ?_
  refine e_topi (nI (oc + 1)) rfl ?_
  refine e_iconst (v := nI 1) dX4_addObject_34 rfl ic_1 ?_
  refine e_isub dX4_addObject_35 rfl ?_
  refine e_topi (nI (oc + 1 - 1)) (pk_sub (by omega)) ?_
  exact e_iret dX4_addObject_36 rfl rfl (Nat.le_of_ble_eq_true rfl) (Nat.le_of_ble_eq_true rfl) rfl rfl
theorem m_addObject_no {l : Launch} (hf : l.stackTraces = false) {M : pmM} {od : Nat → Nat} (hmr : M.2.1 = mrC od) (hoc : M.1 64 2 = nI 8) : Sp l kX4_addObject 86 1 0 0 [.ref 64] M (.inl (some (.int (nI 0)))) (cdM (cdM M 0) 1) := by
  refine sp_of hf (by decide +kernel) (Nat.le_of_ble_eq_true rfl) (by intro v hv; simp at hv; subst hv; rfl) rfl ?_
  refine e_aload_0 dX4_addObject_0 rfl ?_
  refine e_iconst (v := nI 0) dX4_addObject_1 rfl ic_0 ?_
  refine e_putI dX4_addObject_2 rfl lkX4_68 rfl rfl rfl ps_64 (by decide) (by decide) ?_
  refine e_aload_0 dX4_addObject_5 rfl ?_
  refine e_getI dX4_addObject_6 rfl lkX4_72 rfl ps_64 (by decide) (by decide) ?_
  refine e_topi (nI 8) hoc ?_
  refine e_bipush (v := nI 8) dX4_addObject_9 rfl bc_8 ?_
  refine e_nc_ne_f dX4_addObject_11 rfl ⟨20, by decide⟩ (by omega) (by omega) rfl ?_
  refine e_aload_0 dX4_addObject_14 rfl ?_
  refine e_iconst (v := nI 1) dX4_addObject_15 rfl ic_1 ?_
  refine e_callV dX4_addObject_16 rfl csX4_90 (m_fails (M := (cdM M 0)) (k := 1) hf hmr) rfl rfl ps_64 (by decide) (by decide) ⟨Nat.le_of_ble_eq_true rfl, Nat.le_of_ble_eq_true rfl⟩ ⟨Nat.le_of_ble_eq_true rfl, Nat.le_of_ble_eq_true rfl⟩ rfl rfl (Nat.le_of_ble_eq_true rfl) ?_
  exact e_iret dX4_addObject_19 rfl rfl (Nat.le_of_ble_eq_true rfl) (Nat.le_of_ble_eq_true rfl) rfl rfl
theorem m_addRange_ok {l : Launch} (hf : l.stackTraces = false) {M : pmM} {od : Nat → Nat} (hmr : M.2.1 = mrC od) {oc : Nat} {rg mc : Nat → Nat} {lo hi mb : Nat → Nat → Nat} (hO : MO M oc rg mc lo hi mb) {o : Nat} (ho : o < oc) {a b : Nat} (hab : a ≤ b) (hb : b < 32) (hlt : rg o < 3) : Sp l kX4_addRange 86 2 0 0 [.ref 64, .int (nI o), .int (nI a), .int (nI b)] M (.inl (some (.int (nI (rg o + 1))))) (mrM M o (rg o) a b) := by
  refine sp_of hf (by decide +kernel) (Nat.le_of_ble_eq_true rfl) (by intro v hv; simp at hv; rcases hv with rfl | rfl | rfl | rfl <;> rfl) rfl ?_
  have hO0 : MO (cdM M 0) oc rg mc lo hi mb := hO.congr rfl (fun a k h1 h2 => cdM_no (by omega))
  obtain ⟨h1, h2, h3, h4, h5, h6⟩ := hO
  have h0r : ∀ o, o < oc → (cdM M 0).1 65 o = nI (rg o) := fun o h => (h3 o h).1
  have h0m : ∀ o, o < oc → (cdM M 0).1 68 o = nI (mc o) := fun o h => (h5 o h).1
  refine e_aload_0 dX4_addRange_0 rfl ?_
  refine e_iconst (v := nI 0) dX4_addRange_1 rfl ic_0 ?_
  refine e_putI dX4_addRange_2 rfl lkX4_68 rfl rfl rfl ps_64 (by decide) (by decide) ?_
  refine e_aload_0 dX4_addRange_5 rfl ?_
  refine e_iload_1 dX4_addRange_6 rfl ?_
  refine e_callV dX4_addRange_7 rfl csX4_93 (m_isObject_y (M := (cdM M 0)) hf hO0.2.1 hO0.1 ho) rfl rfl ps_64 (by decide) (by decide) ⟨Nat.le_of_ble_eq_true rfl, Nat.le_of_ble_eq_true rfl⟩ ⟨Nat.le_of_ble_eq_true rfl, Nat.le_of_ble_eq_true rfl⟩ rfl rfl (Nat.le_of_ble_eq_true rfl) ?_
  refine e_if_ne_t (tgt := 19) dX4_addRange_10 (by decide) (by decide) ?_
  refine e_iload_2 dX4_addRange_19 rfl ?_
  refine e_iconst (v := nI 0) dX4_addRange_20 rfl ic_0 ?_
  refine e_bipush (v := nI 31) dX4_addRange_21 rfl bc_31 ?_
  refine e_callS dX4_addRange_23 rfl csX4_75 (m_in_t (M := (cdM M 0)) hf (nI_le (Nat.zero_le a) (by omega)) (nI_le (show a ≤ 31 by omega) (by omega))) rfl rfl ⟨Nat.le_of_ble_eq_true rfl, Nat.le_of_ble_eq_true rfl⟩ ⟨Nat.le_of_ble_eq_true rfl, Nat.le_of_ble_eq_true rfl⟩ rfl rfl (Nat.le_of_ble_eq_true rfl) ?_
  refine e_if_eq_f dX4_addRange_26 rfl ⟨39, by decide⟩ (by decide) ?_
  refine e_iload_3 dX4_addRange_29 rfl ?_
  refine e_iload_2 dX4_addRange_30 rfl ?_
  refine e_bipush (v := nI 31) dX4_addRange_31 rfl bc_31 ?_
  refine e_callS dX4_addRange_33 rfl csX4_75 (m_in_t (M := (cdM M 0)) hf (nI_le hab (by omega)) (nI_le (show b ≤ 31 by omega) (by omega))) rfl rfl ⟨Nat.le_of_ble_eq_true rfl, Nat.le_of_ble_eq_true rfl⟩ ⟨Nat.le_of_ble_eq_true rfl, Nat.le_of_ble_eq_true rfl⟩ rfl rfl (Nat.le_of_ble_eq_true rfl) ?_
  refine e_if_ne_t (tgt := 45) dX4_addRange_36 (by decide) (by decide) ?_
  refine e_aload_0 dX4_addRange_45 rfl ?_
  refine e_getR dX4_addRange_46 rfl lkX4_7 rfl ps_64 (by decide) (by decide) (mr_of hmr rfl) ?_
  refine e_iload_1 dX4_addRange_49 rfl ?_
  refine e_iald dX4_addRange_50 rfl ps_65 (by decide) rfl (by omega) ?_
  refine e_topi (nI (rg o)) (h0r o ho) ?_
  refine e_iconst (v := nI 3) dX4_addRange_51 rfl ic_3 ?_
  refine e_nc_ne_t (tgt := 61) dX4_addRange_52 (by decide) (by omega) (by omega) (by omega) ?_
  refine e_aload_0 dX4_addRange_61 rfl ?_
  refine e_getR dX4_addRange_62 rfl lkX4_13 rfl ps_64 (by decide) (by decide) (mr_of hmr rfl) ?_
  refine e_iconst (v := nI 3) dX4_addRange_65 rfl ic_3 ?_
  refine e_iload_1 dX4_addRange_66 rfl ?_
  refine e_imul dX4_addRange_67 rfl ?_
  refine e_topi (nI (3 * o)) (pk_mul _ _) ?_
  refine e_aload_0 dX4_addRange_68 rfl ?_
  refine e_getR dX4_addRange_69 rfl lkX4_7 rfl ps_64 (by decide) (by decide) (mr_of hmr rfl) ?_
  refine e_iload_1 dX4_addRange_72 rfl ?_
  refine e_iald dX4_addRange_73 rfl ps_65 (by decide) rfl (by omega) ?_
  refine e_topi (nI (rg o)) (h0r o ho) ?_
  refine e_iadd dX4_addRange_74 rfl ?_
  refine e_topi (nI (3 * o + rg o)) (nI_add _ _) ?_
  refine e_iload_2 dX4_addRange_75 rfl ?_
  refine e_iast dX4_addRange_76 rfl ps_66 (by decide) rfl (by omega) ?_
  refine e_aload_0 dX4_addRange_77 rfl ?_
  refine e_getR dX4_addRange_78 rfl lkX4_16 rfl ps_64 (by decide) (by decide) (mr_of hmr rfl) ?_
  refine e_iconst (v := nI 3) dX4_addRange_81 rfl ic_3 ?_
  refine e_iload_1 dX4_addRange_82 rfl ?_
  refine e_imul dX4_addRange_83 rfl ?_
  refine e_topi (nI (3 * o)) (pk_mul _ _) ?_
  refine e_aload_0 dX4_addRange_84 rfl ?_
  refine e_getR dX4_addRange_85 rfl lkX4_7 rfl ps_64 (by decide) (by decide) (mr_of hmr rfl) ?_
  refine e_iload_1 dX4_addRange_88 rfl ?_
  refine e_iald dX4_addRange_89 rfl ps_65 (by decide) rfl (by omega) ?_
  refine e_topi (nI (rg o)) (h0r o ho) ?_
  refine e_iadd dX4_addRange_90 rfl ?_
  refine e_topi (nI (3 * o + rg o)) (nI_add _ _) ?_
  refine e_iload_3 dX4_addRange_91 rfl ?_
  refine e_iast dX4_addRange_92 rfl ps_67 (by decide) rfl (by omega) ?_
  refine e_aload_0 dX4_addRange_93 rfl ?_
  refine e_getR dX4_addRange_94 rfl lkX4_7 rfl ps_64 (by decide) (by decide) (mr_of hmr rfl) ?_
  refine e_iload_1 dX4_addRange_97 rfl ?_
  refine e_dup2 dX4_addRange_98 rfl rfl rfl ?_
  refine e_iald dX4_addRange_99 rfl ps_65 (by decide) rfl (by omega) ?_
  refine e_topi (nI (rg o)) (h0r o ho) ?_
  refine e_iconst (v := nI 1) dX4_addRange_100 rfl ic_1 ?_
  refine e_iadd dX4_addRange_101 rfl ?_
  refine e_topi (nI (rg o + 1)) (nI_add _ _) ?_
  refine e_iast dX4_addRange_102 rfl ps_65 (by decide) rfl (by omega) ?_
  refine e_aload_0 dX4_addRange_103 rfl ?_
  refine e_getR dX4_addRange_104 rfl lkX4_7 rfl ps_64 (by decide) (by decide) (mr_of hmr rfl) ?_
  refine e_iload_1 dX4_addRange_107 rfl ?_
  refine e_iald dX4_addRange_108 rfl ps_65 (by decide) rfl (by omega) ?_
  refine e_topi (nI (rg o + 1)) pm2_e ?_
  exact e_iret dX4_addRange_109 rfl rfl (Nat.le_of_ble_eq_true rfl) (Nat.le_of_ble_eq_true rfl) rfl rfl
theorem m_addRange_no1 {l : Launch} (hf : l.stackTraces = false) {M : pmM} {od : Nat → Nat} (hmr : M.2.1 = mrC od) {oc : Nat} {rg mc : Nat → Nat} {lo hi mb : Nat → Nat → Nat} (hO : MO M oc rg mc lo hi mb) {x : Int32} (hx : ¬ vp_in x oc) {y : Int32} {z : Int32} : Sp l kX4_addRange 86 2 0 0 [.ref 64, .int x, .int y, .int z] M (.inl (some (.int (nI 0)))) (cdM (cdM M 0) 1) := by
  refine sp_of hf (by decide +kernel) (Nat.le_of_ble_eq_true rfl) (by intro v hv; simp at hv; rcases hv with rfl | rfl | rfl | rfl <;> rfl) rfl ?_
  have hO0 : MO (cdM M 0) oc rg mc lo hi mb := hO.congr rfl (fun a k h1 h2 => cdM_no (by omega))
  obtain ⟨h1, h2, h3, h4, h5, h6⟩ := hO
  have h0r : ∀ o, o < oc → (cdM M 0).1 65 o = nI (rg o) := fun o h => (h3 o h).1
  have h0m : ∀ o, o < oc → (cdM M 0).1 68 o = nI (mc o) := fun o h => (h5 o h).1
  refine e_aload_0 dX4_addRange_0 rfl ?_
  refine e_iconst (v := nI 0) dX4_addRange_1 rfl ic_0 ?_
  refine e_putI dX4_addRange_2 rfl lkX4_68 rfl rfl rfl ps_64 (by decide) (by decide) ?_
  refine e_aload_0 dX4_addRange_5 rfl ?_
  refine e_iload_1 dX4_addRange_6 rfl ?_
  refine e_callV dX4_addRange_7 rfl csX4_93 (m_isObject_n (M := (cdM M 0)) hf hO0.2.1 hO0.1 hx) rfl rfl ps_64 (by decide) (by decide) ⟨Nat.le_of_ble_eq_true rfl, Nat.le_of_ble_eq_true rfl⟩ ⟨Nat.le_of_ble_eq_true rfl, Nat.le_of_ble_eq_true rfl⟩ rfl rfl (Nat.le_of_ble_eq_true rfl) ?_
  refine e_if_ne_f dX4_addRange_10 rfl ⟨19, by decide⟩ (by decide) ?_
  refine e_aload_0 dX4_addRange_13 rfl ?_
  refine e_iconst (v := nI 1) dX4_addRange_14 rfl ic_1 ?_
  refine e_callV dX4_addRange_15 rfl csX4_90 (m_fails (M := (cdM M 0)) (k := 1) hf hmr) rfl rfl ps_64 (by decide) (by decide) ⟨Nat.le_of_ble_eq_true rfl, Nat.le_of_ble_eq_true rfl⟩ ⟨Nat.le_of_ble_eq_true rfl, Nat.le_of_ble_eq_true rfl⟩ rfl rfl (Nat.le_of_ble_eq_true rfl) ?_
  exact e_iret dX4_addRange_18 rfl rfl (Nat.le_of_ble_eq_true rfl) (Nat.le_of_ble_eq_true rfl) rfl rfl
theorem m_addRange_no2 {l : Launch} (hf : l.stackTraces = false) {M : pmM} {od : Nat → Nat} (hmr : M.2.1 = mrC od) {oc : Nat} {rg mc : Nat → Nat} {lo hi mb : Nat → Nat → Nat} (hO : MO M oc rg mc lo hi mb) {o : Nat} (ho : o < oc) {x y : Int32} (hx : ∀ a b : Nat, a ≤ b → b < 32 → ¬ (x = nI a ∧ y = nI b)) : Sp l kX4_addRange 86 2 0 0 [.ref 64, .int (nI o), .int x, .int y] M (.inl (some (.int (nI 0)))) (cdM (cdM M 0) 2) := by
  refine sp_of hf (by decide +kernel) (Nat.le_of_ble_eq_true rfl) (by intro v hv; simp at hv; rcases hv with rfl | rfl | rfl | rfl <;> rfl) rfl ?_
  have hO0 : MO (cdM M 0) oc rg mc lo hi mb := hO.congr rfl (fun a k h1 h2 => cdM_no (by omega))
  obtain ⟨h1, h2, h3, h4, h5, h6⟩ := hO
  have h0r : ∀ o, o < oc → (cdM M 0).1 65 o = nI (rg o) := fun o h => (h3 o h).1
  have h0m : ∀ o, o < oc → (cdM M 0).1 68 o = nI (mc o) := fun o h => (h5 o h).1
  by_cases q : vp_in x 32
  · obtain ⟨a, ha, rfl⟩ := vp_in_of q (by decide)
    refine e_aload_0 dX4_addRange_0 rfl ?_
    refine e_iconst (v := nI 0) dX4_addRange_1 rfl ic_0 ?_
    refine e_putI dX4_addRange_2 rfl lkX4_68 rfl rfl rfl ps_64 (by decide) (by decide) ?_
    refine e_aload_0 dX4_addRange_5 rfl ?_
    refine e_iload_1 dX4_addRange_6 rfl ?_
    refine e_callV dX4_addRange_7 rfl csX4_93 (m_isObject_y (M := (cdM M 0)) hf hO0.2.1 hO0.1 ho) rfl rfl ps_64 (by decide) (by decide) ⟨Nat.le_of_ble_eq_true rfl, Nat.le_of_ble_eq_true rfl⟩ ⟨Nat.le_of_ble_eq_true rfl, Nat.le_of_ble_eq_true rfl⟩ rfl rfl (Nat.le_of_ble_eq_true rfl) ?_
    refine e_if_ne_t (tgt := 19) dX4_addRange_10 (by decide) (by decide) ?_
    refine e_iload_2 dX4_addRange_19 rfl ?_
    refine e_iconst (v := nI 0) dX4_addRange_20 rfl ic_0 ?_
    refine e_bipush (v := nI 31) dX4_addRange_21 rfl bc_31 ?_
    refine e_callS dX4_addRange_23 rfl csX4_75 (m_in_t (M := (cdM M 0)) hf (nI_le (Nat.zero_le a) (by omega)) (nI_le (show a ≤ 31 by omega) (by omega))) rfl rfl ⟨Nat.le_of_ble_eq_true rfl, Nat.le_of_ble_eq_true rfl⟩ ⟨Nat.le_of_ble_eq_true rfl, Nat.le_of_ble_eq_true rfl⟩ rfl rfl (Nat.le_of_ble_eq_true rfl) ?_
    refine e_if_eq_f dX4_addRange_26 rfl ⟨39, by decide⟩ (by decide) ?_
    refine e_iload_3 dX4_addRange_29 rfl ?_
    refine e_iload_2 dX4_addRange_30 rfl ?_
    refine e_bipush (v := nI 31) dX4_addRange_31 rfl bc_31 ?_
    refine e_callS dX4_addRange_33 rfl csX4_75 (m_in_f (M := (cdM M 0)) hf (in31_n ha (fun b g1 g2 g3 => hx a b g1 g2 ⟨rfl, g3⟩))) rfl rfl ⟨Nat.le_of_ble_eq_true rfl, Nat.le_of_ble_eq_true rfl⟩ ⟨Nat.le_of_ble_eq_true rfl, Nat.le_of_ble_eq_true rfl⟩ rfl rfl (Nat.le_of_ble_eq_true rfl) ?_
    refine e_if_ne_f dX4_addRange_36 rfl ⟨45, by decide⟩ (by decide) ?_
    refine e_aload_0 dX4_addRange_39 rfl ?_
    refine e_iconst (v := nI 2) dX4_addRange_40 rfl ic_2 ?_
    refine e_callV dX4_addRange_41 rfl csX4_90 (m_fails (M := (cdM M 0)) (k := 2) hf hmr) rfl rfl ps_64 (by decide) (by decide) ⟨Nat.le_of_ble_eq_true rfl, Nat.le_of_ble_eq_true rfl⟩ ⟨Nat.le_of_ble_eq_true rfl, Nat.le_of_ble_eq_true rfl⟩ rfl rfl (Nat.le_of_ble_eq_true rfl) ?_
    exact e_iret dX4_addRange_44 rfl rfl (Nat.le_of_ble_eq_true rfl) (Nat.le_of_ble_eq_true rfl) rfl rfl
  · refine e_aload_0 dX4_addRange_0 rfl ?_
    refine e_iconst (v := nI 0) dX4_addRange_1 rfl ic_0 ?_
    refine e_putI dX4_addRange_2 rfl lkX4_68 rfl rfl rfl ps_64 (by decide) (by decide) ?_
    refine e_aload_0 dX4_addRange_5 rfl ?_
    refine e_iload_1 dX4_addRange_6 rfl ?_
    refine e_callV dX4_addRange_7 rfl csX4_93 (m_isObject_y (M := (cdM M 0)) hf hO0.2.1 hO0.1 ho) rfl rfl ps_64 (by decide) (by decide) ⟨Nat.le_of_ble_eq_true rfl, Nat.le_of_ble_eq_true rfl⟩ ⟨Nat.le_of_ble_eq_true rfl, Nat.le_of_ble_eq_true rfl⟩ rfl rfl (Nat.le_of_ble_eq_true rfl) ?_
    refine e_if_ne_t (tgt := 19) dX4_addRange_10 (by decide) (by decide) ?_
    refine e_iload_2 dX4_addRange_19 rfl ?_
    refine e_iconst (v := nI 0) dX4_addRange_20 rfl ic_0 ?_
    refine e_bipush (v := nI 31) dX4_addRange_21 rfl bc_31 ?_
    refine e_callS dX4_addRange_23 rfl csX4_75 (m_in_f (M := (cdM M 0)) hf (in32_n q)) rfl rfl ⟨Nat.le_of_ble_eq_true rfl, Nat.le_of_ble_eq_true rfl⟩ ⟨Nat.le_of_ble_eq_true rfl, Nat.le_of_ble_eq_true rfl⟩ rfl rfl (Nat.le_of_ble_eq_true rfl) ?_
    refine e_if_eq_t (tgt := 39) dX4_addRange_26 (by decide) (by decide) ?_
    refine e_aload_0 dX4_addRange_39 rfl ?_
    refine e_iconst (v := nI 2) dX4_addRange_40 rfl ic_2 ?_
    refine e_callV dX4_addRange_41 rfl csX4_90 (m_fails (M := (cdM M 0)) (k := 2) hf hmr) rfl rfl ps_64 (by decide) (by decide) ⟨Nat.le_of_ble_eq_true rfl, Nat.le_of_ble_eq_true rfl⟩ ⟨Nat.le_of_ble_eq_true rfl, Nat.le_of_ble_eq_true rfl⟩ rfl rfl (Nat.le_of_ble_eq_true rfl) ?_
    exact e_iret dX4_addRange_44 rfl rfl (Nat.le_of_ble_eq_true rfl) (Nat.le_of_ble_eq_true rfl) rfl rfl
theorem m_addRange_no3 {l : Launch} (hf : l.stackTraces = false) {M : pmM} {od : Nat → Nat} (hmr : M.2.1 = mrC od) {oc : Nat} {rg mc : Nat → Nat} {lo hi mb : Nat → Nat → Nat} (hO : MO M oc rg mc lo hi mb) {o : Nat} (ho : o < oc) {a b : Nat} (hab : a ≤ b) (hb : b < 32) (hlt : rg o = 3) : Sp l kX4_addRange 86 2 0 0 [.ref 64, .int (nI o), .int (nI a), .int (nI b)] M (.inl (some (.int (nI 0)))) (cdM (cdM M 0) 3) := by
  refine sp_of hf (by decide +kernel) (Nat.le_of_ble_eq_true rfl) (by intro v hv; simp at hv; rcases hv with rfl | rfl | rfl | rfl <;> rfl) rfl ?_
  have hO0 : MO (cdM M 0) oc rg mc lo hi mb := hO.congr rfl (fun a k h1 h2 => cdM_no (by omega))
  obtain ⟨h1, h2, h3, h4, h5, h6⟩ := hO
  have h0r : ∀ o, o < oc → (cdM M 0).1 65 o = nI (rg o) := fun o h => (h3 o h).1
  have h0m : ∀ o, o < oc → (cdM M 0).1 68 o = nI (mc o) := fun o h => (h5 o h).1
  refine e_aload_0 dX4_addRange_0 rfl ?_
  refine e_iconst (v := nI 0) dX4_addRange_1 rfl ic_0 ?_
  refine e_putI dX4_addRange_2 rfl lkX4_68 rfl rfl rfl ps_64 (by decide) (by decide) ?_
  refine e_aload_0 dX4_addRange_5 rfl ?_
  refine e_iload_1 dX4_addRange_6 rfl ?_
  refine e_callV dX4_addRange_7 rfl csX4_93 (m_isObject_y (M := (cdM M 0)) hf hO0.2.1 hO0.1 ho) rfl rfl ps_64 (by decide) (by decide) ⟨Nat.le_of_ble_eq_true rfl, Nat.le_of_ble_eq_true rfl⟩ ⟨Nat.le_of_ble_eq_true rfl, Nat.le_of_ble_eq_true rfl⟩ rfl rfl (Nat.le_of_ble_eq_true rfl) ?_
  refine e_if_ne_t (tgt := 19) dX4_addRange_10 (by decide) (by decide) ?_
  refine e_iload_2 dX4_addRange_19 rfl ?_
  refine e_iconst (v := nI 0) dX4_addRange_20 rfl ic_0 ?_
  refine e_bipush (v := nI 31) dX4_addRange_21 rfl bc_31 ?_
  refine e_callS dX4_addRange_23 rfl csX4_75 (m_in_t (M := (cdM M 0)) hf (nI_le (Nat.zero_le a) (by omega)) (nI_le (show a ≤ 31 by omega) (by omega))) rfl rfl ⟨Nat.le_of_ble_eq_true rfl, Nat.le_of_ble_eq_true rfl⟩ ⟨Nat.le_of_ble_eq_true rfl, Nat.le_of_ble_eq_true rfl⟩ rfl rfl (Nat.le_of_ble_eq_true rfl) ?_
  refine e_if_eq_f dX4_addRange_26 rfl ⟨39, by decide⟩ (by decide) ?_
  refine e_iload_3 dX4_addRange_29 rfl ?_
  refine e_iload_2 dX4_addRange_30 rfl ?_
  refine e_bipush (v := nI 31) dX4_addRange_31 rfl bc_31 ?_
  refine e_callS dX4_addRange_33 rfl csX4_75 (m_in_t (M := (cdM M 0)) hf (nI_le hab (by omega)) (nI_le (show b ≤ 31 by omega) (by omega))) rfl rfl ⟨Nat.le_of_ble_eq_true rfl, Nat.le_of_ble_eq_true rfl⟩ ⟨Nat.le_of_ble_eq_true rfl, Nat.le_of_ble_eq_true rfl⟩ rfl rfl (Nat.le_of_ble_eq_true rfl) ?_
  refine e_if_ne_t (tgt := 45) dX4_addRange_36 (by decide) (by decide) ?_
  refine e_aload_0 dX4_addRange_45 rfl ?_
  refine e_getR dX4_addRange_46 rfl lkX4_7 rfl ps_64 (by decide) (by decide) (mr_of hmr rfl) ?_
  refine e_iload_1 dX4_addRange_49 rfl ?_
  refine e_iald dX4_addRange_50 rfl ps_65 (by decide) rfl (by omega) ?_
  refine e_topi (nI (rg o)) (h0r o ho) ?_
  refine e_iconst (v := nI 3) dX4_addRange_51 rfl ic_3 ?_
  refine e_nc_ne_f dX4_addRange_52 rfl ⟨61, by decide⟩ (by omega) (by omega) hlt ?_
  refine e_aload_0 dX4_addRange_55 rfl ?_
  refine e_iconst (v := nI 3) dX4_addRange_56 rfl ic_3 ?_
  refine e_callV dX4_addRange_57 rfl csX4_90 (m_fails (M := (cdM M 0)) (k := 3) hf hmr) rfl rfl ps_64 (by decide) (by decide) ⟨Nat.le_of_ble_eq_true rfl, Nat.le_of_ble_eq_true rfl⟩ ⟨Nat.le_of_ble_eq_true rfl, Nat.le_of_ble_eq_true rfl⟩ rfl rfl (Nat.le_of_ble_eq_true rfl) ?_
  exact e_iret dX4_addRange_60 rfl rfl (Nat.le_of_ble_eq_true rfl) (Nat.le_of_ble_eq_true rfl) rfl rfl
theorem m_removeRange_ok {l : Launch} (hf : l.stackTraces = false) {M : pmM} {od : Nat → Nat} (hmr : M.2.1 = mrC od) {oc : Nat} {rg mc : Nat → Nat} {lo hi mb : Nat → Nat → Nat} (hO : MO M oc rg mc lo hi mb) {o : Nat} (ho : o < oc) (hgt : 0 < rg o) : Sp l kX4_removeRange 86 2 0 0 [.ref 64, .int (nI o)] M (.inl (some (.int (nI (rg o - 1))))) (mqM M o (rg o)) := by
  refine sp_of hf (by decide +kernel) (Nat.le_of_ble_eq_true rfl) (by intro v hv; simp at hv; rcases hv with rfl | rfl <;> rfl) rfl ?_
  have hO0 : MO (cdM M 0) oc rg mc lo hi mb := hO.congr rfl (fun a k h1 h2 => cdM_no (by omega))
  obtain ⟨h1, h2, h3, h4, h5, h6⟩ := hO
  have h0r : ∀ o, o < oc → (cdM M 0).1 65 o = nI (rg o) := fun o h => (h3 o h).1
  have h0m : ∀ o, o < oc → (cdM M 0).1 68 o = nI (mc o) := fun o h => (h5 o h).1
  have hr3 := (h3 o ho).2
  refine e_aload_0 dX4_removeRange_0 rfl ?_
  refine e_iconst (v := nI 0) dX4_removeRange_1 rfl ic_0 ?_
  refine e_putI dX4_removeRange_2 rfl lkX4_68 rfl rfl rfl ps_64 (by decide) (by decide) ?_
  refine e_aload_0 dX4_removeRange_5 rfl ?_
  refine e_iload_1 dX4_removeRange_6 rfl ?_
  refine e_callV dX4_removeRange_7 rfl csX4_93 (m_isObject_y (M := (cdM M 0)) hf hO0.2.1 hO0.1 ho) rfl rfl ps_64 (by decide) (by decide) ⟨Nat.le_of_ble_eq_true rfl, Nat.le_of_ble_eq_true rfl⟩ ⟨Nat.le_of_ble_eq_true rfl, Nat.le_of_ble_eq_true rfl⟩ rfl rfl (Nat.le_of_ble_eq_true rfl) ?_
  refine e_if_ne_t (tgt := 19) dX4_removeRange_10 (by decide) (by decide) ?_
  refine e_aload_0 dX4_removeRange_19 rfl ?_
  refine e_getR dX4_removeRange_20 rfl lkX4_7 rfl ps_64 (by decide) (by decide) (mr_of hmr rfl) ?_
  refine e_iload_1 dX4_removeRange_23 rfl ?_
  refine e_iald dX4_removeRange_24 rfl ps_65 (by decide) rfl (by omega) ?_
  refine e_topi (nI (rg o)) (h0r o ho) ?_
  refine e_if_ne_t (tgt := 34) dX4_removeRange_25 (by decide) (nI_ne0 hgt (by omega)) ?_
  refine e_aload_0 dX4_removeRange_34 rfl ?_
  refine e_getR dX4_removeRange_35 rfl lkX4_7 rfl ps_64 (by decide) (by decide) (mr_of hmr rfl) ?_
  refine e_iload_1 dX4_removeRange_38 rfl ?_
  refine e_dup2 dX4_removeRange_39 rfl rfl rfl ?_
  refine e_iald dX4_removeRange_40 rfl ps_65 (by decide) rfl (by omega) ?_
  refine e_topi (nI (rg o)) (h0r o ho) ?_
  refine e_iconst (v := nI 1) dX4_removeRange_41 rfl ic_1 ?_
  refine e_isub dX4_removeRange_42 rfl ?_
  refine e_topi (nI (rg o - 1)) (pk_sub (by omega)) ?_
  refine e_iast dX4_removeRange_43 rfl ps_65 (by decide) rfl (by omega) ?_
  refine e_aload_0 dX4_removeRange_44 rfl ?_
  refine e_getR dX4_removeRange_45 rfl lkX4_7 rfl ps_64 (by decide) (by decide) (mr_of hmr rfl) ?_
  refine e_iload_1 dX4_removeRange_48 rfl ?_
  refine e_iald dX4_removeRange_49 rfl ps_65 (by decide) rfl (by omega) ?_
  refine e_topi (nI (rg o - 1)) pm2_e ?_
  exact e_iret dX4_removeRange_50 rfl rfl (Nat.le_of_ble_eq_true rfl) (Nat.le_of_ble_eq_true rfl) rfl rfl
theorem m_removeRange_no1 {l : Launch} (hf : l.stackTraces = false) {M : pmM} {od : Nat → Nat} (hmr : M.2.1 = mrC od) {oc : Nat} {rg mc : Nat → Nat} {lo hi mb : Nat → Nat → Nat} (hO : MO M oc rg mc lo hi mb) {x : Int32} (hx : ¬ vp_in x oc) : Sp l kX4_removeRange 86 2 0 0 [.ref 64, .int x] M (.inl (some (.int (nI 0)))) (cdM (cdM M 0) 1) := by
  refine sp_of hf (by decide +kernel) (Nat.le_of_ble_eq_true rfl) (by intro v hv; simp at hv; rcases hv with rfl | rfl <;> rfl) rfl ?_
  have hO0 : MO (cdM M 0) oc rg mc lo hi mb := hO.congr rfl (fun a k h1 h2 => cdM_no (by omega))
  obtain ⟨h1, h2, h3, h4, h5, h6⟩ := hO
  have h0r : ∀ o, o < oc → (cdM M 0).1 65 o = nI (rg o) := fun o h => (h3 o h).1
  have h0m : ∀ o, o < oc → (cdM M 0).1 68 o = nI (mc o) := fun o h => (h5 o h).1
  refine e_aload_0 dX4_removeRange_0 rfl ?_
  refine e_iconst (v := nI 0) dX4_removeRange_1 rfl ic_0 ?_
  refine e_putI dX4_removeRange_2 rfl lkX4_68 rfl rfl rfl ps_64 (by decide) (by decide) ?_
  refine e_aload_0 dX4_removeRange_5 rfl ?_
  refine e_iload_1 dX4_removeRange_6 rfl ?_
  refine e_callV dX4_removeRange_7 rfl csX4_93 (m_isObject_n (M := (cdM M 0)) hf hO0.2.1 hO0.1 hx) rfl rfl ps_64 (by decide) (by decide) ⟨Nat.le_of_ble_eq_true rfl, Nat.le_of_ble_eq_true rfl⟩ ⟨Nat.le_of_ble_eq_true rfl, Nat.le_of_ble_eq_true rfl⟩ rfl rfl (Nat.le_of_ble_eq_true rfl) ?_
  refine e_if_ne_f dX4_removeRange_10 rfl ⟨19, by decide⟩ (by decide) ?_
  refine e_aload_0 dX4_removeRange_13 rfl ?_
  refine e_iconst (v := nI 1) dX4_removeRange_14 rfl ic_1 ?_
  refine e_callV dX4_removeRange_15 rfl csX4_90 (m_fails (M := (cdM M 0)) (k := 1) hf hmr) rfl rfl ps_64 (by decide) (by decide) ⟨Nat.le_of_ble_eq_true rfl, Nat.le_of_ble_eq_true rfl⟩ ⟨Nat.le_of_ble_eq_true rfl, Nat.le_of_ble_eq_true rfl⟩ rfl rfl (Nat.le_of_ble_eq_true rfl) ?_
  exact e_iret dX4_removeRange_18 rfl rfl (Nat.le_of_ble_eq_true rfl) (Nat.le_of_ble_eq_true rfl) rfl rfl
theorem m_removeRange_no2 {l : Launch} (hf : l.stackTraces = false) {M : pmM} {od : Nat → Nat} (hmr : M.2.1 = mrC od) {oc : Nat} {rg mc : Nat → Nat} {lo hi mb : Nat → Nat → Nat} (hO : MO M oc rg mc lo hi mb) {o : Nat} (ho : o < oc) (h00 : rg o = 0) : Sp l kX4_removeRange 86 2 0 0 [.ref 64, .int (nI o)] M (.inl (some (.int (nI 0)))) (cdM (cdM M 0) 2) := by
  refine sp_of hf (by decide +kernel) (Nat.le_of_ble_eq_true rfl) (by intro v hv; simp at hv; rcases hv with rfl | rfl <;> rfl) rfl ?_
  have hO0 : MO (cdM M 0) oc rg mc lo hi mb := hO.congr rfl (fun a k h1 h2 => cdM_no (by omega))
  obtain ⟨h1, h2, h3, h4, h5, h6⟩ := hO
  have h0r : ∀ o, o < oc → (cdM M 0).1 65 o = nI (rg o) := fun o h => (h3 o h).1
  have h0m : ∀ o, o < oc → (cdM M 0).1 68 o = nI (mc o) := fun o h => (h5 o h).1
  refine e_aload_0 dX4_removeRange_0 rfl ?_
  refine e_iconst (v := nI 0) dX4_removeRange_1 rfl ic_0 ?_
  refine e_putI dX4_removeRange_2 rfl lkX4_68 rfl rfl rfl ps_64 (by decide) (by decide) ?_
  refine e_aload_0 dX4_removeRange_5 rfl ?_
  refine e_iload_1 dX4_removeRange_6 rfl ?_
  refine e_callV dX4_removeRange_7 rfl csX4_93 (m_isObject_y (M := (cdM M 0)) hf hO0.2.1 hO0.1 ho) rfl rfl ps_64 (by decide) (by decide) ⟨Nat.le_of_ble_eq_true rfl, Nat.le_of_ble_eq_true rfl⟩ ⟨Nat.le_of_ble_eq_true rfl, Nat.le_of_ble_eq_true rfl⟩ rfl rfl (Nat.le_of_ble_eq_true rfl) ?_
  refine e_if_ne_t (tgt := 19) dX4_removeRange_10 (by decide) (by decide) ?_
  refine e_aload_0 dX4_removeRange_19 rfl ?_
  refine e_getR dX4_removeRange_20 rfl lkX4_7 rfl ps_64 (by decide) (by decide) (mr_of hmr rfl) ?_
  refine e_iload_1 dX4_removeRange_23 rfl ?_
  refine e_iald dX4_removeRange_24 rfl ps_65 (by decide) rfl (by omega) ?_
  refine e_topi (nI (rg o)) (h0r o ho) ?_
  refine e_if_ne_f dX4_removeRange_25 rfl ⟨34, by decide⟩ (by rw [h00]; rfl) ?_
  refine e_aload_0 dX4_removeRange_28 rfl ?_
  refine e_iconst (v := nI 2) dX4_removeRange_29 rfl ic_2 ?_
  refine e_callV dX4_removeRange_30 rfl csX4_90 (m_fails (M := (cdM M 0)) (k := 2) hf hmr) rfl rfl ps_64 (by decide) (by decide) ⟨Nat.le_of_ble_eq_true rfl, Nat.le_of_ble_eq_true rfl⟩ ⟨Nat.le_of_ble_eq_true rfl, Nat.le_of_ble_eq_true rfl⟩ rfl rfl (Nat.le_of_ble_eq_true rfl) ?_
  exact e_iret dX4_removeRange_33 rfl rfl (Nat.le_of_ble_eq_true rfl) (Nat.le_of_ble_eq_true rfl) rfl rfl
theorem m_addMember_ok {l : Launch} (hf : l.stackTraces = false) {M : pmM} {od : Nat → Nat} (hmr : M.2.1 = mrC od) {oc : Nat} {rg mc : Nat → Nat} {lo hi mb : Nat → Nat → Nat} (hO : MO M oc rg mc lo hi mb) {o : Nat} (ho : o < oc) {m : Nat} (hm : m < oc) (hne : o ≠ m) (hnm : ∀ j, j < mc o → mb o j ≠ m) (hnd : hasb (dpS oc mc mb o) m = false) (hlt : mc o < 2) : Sp l kX4_addMember 86 2 0 0 [.ref 64, .int (nI o), .int (nI m)] M (.inl (some (.int (nI (mc o + 1))))) (mmM M o (mc o) m) := by
  refine sp_of hf (by decide +kernel) (Nat.le_of_ble_eq_true rfl) (by intro v hv; simp at hv; rcases hv with rfl | rfl | rfl <;> rfl) rfl ?_
  have hO0 : MO (cdM M 0) oc rg mc lo hi mb := hO.congr rfl (fun a k h1 h2 => cdM_no (by omega))
  obtain ⟨h1, h2, h3, h4, h5, h6⟩ := hO
  have h0r : ∀ o, o < oc → (cdM M 0).1 65 o = nI (rg o) := fun o h => (h3 o h).1
  have h0m : ∀ o, o < oc → (cdM M 0).1 68 o = nI (mc o) := fun o h => (h5 o h).1
  refine e_aload_0 dX4_addMember_0 rfl ?_
  refine e_iconst (v := nI 0) dX4_addMember_1 rfl ic_0 ?_
  refine e_putI dX4_addMember_2 rfl lkX4_68 rfl rfl rfl ps_64 (by decide) (by decide) ?_
  refine e_aload_0 dX4_addMember_5 rfl ?_
  refine e_iload_1 dX4_addMember_6 rfl ?_
  refine e_callV dX4_addMember_7 rfl csX4_93 (m_isObject_y (M := (cdM M 0)) hf hO0.2.1 hO0.1 ho) rfl rfl ps_64 (by decide) (by decide) ⟨Nat.le_of_ble_eq_true rfl, Nat.le_of_ble_eq_true rfl⟩ ⟨Nat.le_of_ble_eq_true rfl, Nat.le_of_ble_eq_true rfl⟩ rfl rfl (Nat.le_of_ble_eq_true rfl) ?_
  refine e_if_eq_f dX4_addMember_10 rfl ⟨21, by decide⟩ (by decide) ?_
  refine e_aload_0 dX4_addMember_13 rfl ?_
  refine e_iload_2 dX4_addMember_14 rfl ?_
  refine e_callV dX4_addMember_15 rfl csX4_93 (m_isObject_y (M := (cdM M 0)) hf hO0.2.1 hO0.1 hm) rfl rfl ps_64 (by decide) (by decide) ⟨Nat.le_of_ble_eq_true rfl, Nat.le_of_ble_eq_true rfl⟩ ⟨Nat.le_of_ble_eq_true rfl, Nat.le_of_ble_eq_true rfl⟩ rfl rfl (Nat.le_of_ble_eq_true rfl) ?_
  refine e_if_ne_t (tgt := 27) dX4_addMember_18 (by decide) (by decide) ?_
  refine e_iload_1 dX4_addMember_27 rfl ?_
  refine e_iload_2 dX4_addMember_28 rfl ?_
  refine e_nc_eq_f dX4_addMember_29 rfl ⟨42, by decide⟩ (by omega) (by omega) hne ?_
  refine e_aload_0 dX4_addMember_32 rfl ?_
  refine e_iload_1 dX4_addMember_33 rfl ?_
  refine e_iload_2 dX4_addMember_34 rfl ?_
  refine e_callV dX4_addMember_35 rfl csX4_97 (m_memberAt_no (M := (cdM M 0)) hf hmr hO0 ho (by omega) hnm) rfl rfl ps_64 (by decide) (by decide) ⟨Nat.le_of_ble_eq_true rfl, Nat.le_of_ble_eq_true rfl⟩ ⟨Nat.le_of_ble_eq_true rfl, Nat.le_of_ble_eq_true rfl⟩ rfl rfl (Nat.le_of_ble_eq_true rfl) ?_
  refine e_iconst (v := -1) dX4_addMember_38 rfl ic_m1 ?_
  refine e_ic_eq_t (tgt := 48) dX4_addMember_39 (by decide) rfl ?_
  refine e_aload_0 dX4_addMember_48 rfl ?_
  refine e_iload_1 dX4_addMember_49 rfl ?_
  refine e_callV dX4_addMember_50 rfl csX4_100 (m_dependents (M := (cdM M 0)) hf hmr hO0 ho) rfl rfl ps_64 (by decide) (by decide) ⟨Nat.le_of_ble_eq_true rfl, Nat.le_of_ble_eq_true rfl⟩ ⟨Nat.le_of_ble_eq_true rfl, Nat.le_of_ble_eq_true rfl⟩ rfl rfl (Nat.le_of_ble_eq_true rfl) ?_
  refine e_iload_2 dX4_addMember_53 rfl ?_
  refine e_ishr dX4_addMember_54 rfl ?_
  refine e_iconst (v := nI 1) dX4_addMember_55 rfl ic_1 ?_
  refine e_iand dX4_addMember_56 rfl ?_
  refine e_iconst (v := nI 1) dX4_addMember_57 rfl ic_1 ?_
  refine e_ic_ne_t (tgt := 67) dX4_addMember_58 (by decide) (shr_n1 _ (by omega) hnd) ?_
  refine e_aload_0 dX4_addMember_67 rfl ?_
  refine e_getR dX4_addMember_68 rfl lkX4_19 rfl ps_64 (by decide) (by decide) (mr_of hmr rfl) ?_
  refine e_iload_1 dX4_addMember_71 rfl ?_
  refine e_iald dX4_addMember_72 rfl ps_68 (by decide) rfl (by omega) ?_
  refine e_topi (nI (mc o)) (h0m o ho) ?_
  refine e_iconst (v := nI 2) dX4_addMember_73 rfl ic_2 ?_
  refine e_nc_ne_t (tgt := 83) dX4_addMember_74 (by decide) (by omega) (by omega) (by omega) ?_
  refine e_aload_0 dX4_addMember_83 rfl ?_
  refine e_getR dX4_addMember_84 rfl lkX4_22 rfl ps_64 (by decide) (by decide) (mr_of hmr rfl) ?_
  refine e_iconst (v := nI 2) dX4_addMember_87 rfl ic_2 ?_
  refine e_iload_1 dX4_addMember_88 rfl ?_
  refine e_imul dX4_addMember_89 rfl ?_
  refine e_topi (nI (2 * o)) (pk_mul _ _) ?_
  refine e_aload_0 dX4_addMember_90 rfl ?_
  refine e_getR dX4_addMember_91 rfl lkX4_19 rfl ps_64 (by decide) (by decide) (mr_of hmr rfl) ?_
  refine e_iload_1 dX4_addMember_94 rfl ?_
  refine e_iald dX4_addMember_95 rfl ps_68 (by decide) rfl (by omega) ?_
  refine e_topi (nI (mc o)) (h0m o ho) ?_
  refine e_iadd dX4_addMember_96 rfl ?_
  refine e_topi (nI (2 * o + mc o)) (nI_add _ _) ?_
  refine e_iload_2 dX4_addMember_97 rfl ?_
  refine e_iast dX4_addMember_98 rfl ps_69 (by decide) rfl (by omega) ?_
  refine e_aload_0 dX4_addMember_99 rfl ?_
  refine e_getR dX4_addMember_100 rfl lkX4_19 rfl ps_64 (by decide) (by decide) (mr_of hmr rfl) ?_
  refine e_iload_1 dX4_addMember_103 rfl ?_
  refine e_dup2 dX4_addMember_104 rfl rfl rfl ?_
  refine e_iald dX4_addMember_105 rfl ps_68 (by decide) rfl (by omega) ?_
  refine e_topi (nI (mc o)) (h0m o ho) ?_
  refine e_iconst (v := nI 1) dX4_addMember_106 rfl ic_1 ?_
  refine e_iadd dX4_addMember_107 rfl ?_
  refine e_topi (nI (mc o + 1)) (nI_add _ _) ?_
  refine e_iast dX4_addMember_108 rfl ps_68 (by decide) rfl (by omega) ?_
  refine e_aload_0 dX4_addMember_109 rfl ?_
  refine e_getR dX4_addMember_110 rfl lkX4_19 rfl ps_64 (by decide) (by decide) (mr_of hmr rfl) ?_
  refine e_iload_1 dX4_addMember_113 rfl ?_
  refine e_iald dX4_addMember_114 rfl ps_68 (by decide) rfl (by omega) ?_
  refine e_topi (nI (mc o + 1)) pm2_e ?_
  exact e_iret dX4_addMember_115 rfl rfl (Nat.le_of_ble_eq_true rfl) (Nat.le_of_ble_eq_true rfl) rfl rfl
theorem m_addMember_no1 {l : Launch} (hf : l.stackTraces = false) {M : pmM} {od : Nat → Nat} (hmr : M.2.1 = mrC od) {oc : Nat} {rg mc : Nat → Nat} {lo hi mb : Nat → Nat → Nat} (hO : MO M oc rg mc lo hi mb) {x : Int32} (hx : ¬ vp_in x oc) {y : Int32} : Sp l kX4_addMember 86 2 0 0 [.ref 64, .int x, .int y] M (.inl (some (.int (nI 0)))) (cdM (cdM M 0) 1) := by
  refine sp_of hf (by decide +kernel) (Nat.le_of_ble_eq_true rfl) (by intro v hv; simp at hv; rcases hv with rfl | rfl | rfl <;> rfl) rfl ?_
  have hO0 : MO (cdM M 0) oc rg mc lo hi mb := hO.congr rfl (fun a k h1 h2 => cdM_no (by omega))
  obtain ⟨h1, h2, h3, h4, h5, h6⟩ := hO
  have h0r : ∀ o, o < oc → (cdM M 0).1 65 o = nI (rg o) := fun o h => (h3 o h).1
  have h0m : ∀ o, o < oc → (cdM M 0).1 68 o = nI (mc o) := fun o h => (h5 o h).1
  refine e_aload_0 dX4_addMember_0 rfl ?_
  refine e_iconst (v := nI 0) dX4_addMember_1 rfl ic_0 ?_
  refine e_putI dX4_addMember_2 rfl lkX4_68 rfl rfl rfl ps_64 (by decide) (by decide) ?_
  refine e_aload_0 dX4_addMember_5 rfl ?_
  refine e_iload_1 dX4_addMember_6 rfl ?_
  refine e_callV dX4_addMember_7 rfl csX4_93 (m_isObject_n (M := (cdM M 0)) hf hO0.2.1 hO0.1 hx) rfl rfl ps_64 (by decide) (by decide) ⟨Nat.le_of_ble_eq_true rfl, Nat.le_of_ble_eq_true rfl⟩ ⟨Nat.le_of_ble_eq_true rfl, Nat.le_of_ble_eq_true rfl⟩ rfl rfl (Nat.le_of_ble_eq_true rfl) ?_
  refine e_if_eq_t (tgt := 21) dX4_addMember_10 (by decide) (by decide) ?_
  refine e_aload_0 dX4_addMember_21 rfl ?_
  refine e_iconst (v := nI 1) dX4_addMember_22 rfl ic_1 ?_
  refine e_callV dX4_addMember_23 rfl csX4_90 (m_fails (M := (cdM M 0)) (k := 1) hf hmr) rfl rfl ps_64 (by decide) (by decide) ⟨Nat.le_of_ble_eq_true rfl, Nat.le_of_ble_eq_true rfl⟩ ⟨Nat.le_of_ble_eq_true rfl, Nat.le_of_ble_eq_true rfl⟩ rfl rfl (Nat.le_of_ble_eq_true rfl) ?_
  exact e_iret dX4_addMember_26 rfl rfl (Nat.le_of_ble_eq_true rfl) (Nat.le_of_ble_eq_true rfl) rfl rfl
theorem m_addMember_no2 {l : Launch} (hf : l.stackTraces = false) {M : pmM} {od : Nat → Nat} (hmr : M.2.1 = mrC od) {oc : Nat} {rg mc : Nat → Nat} {lo hi mb : Nat → Nat → Nat} (hO : MO M oc rg mc lo hi mb) {o : Nat} (ho : o < oc) {x : Int32} (hx : ¬ vp_in x oc) : Sp l kX4_addMember 86 2 0 0 [.ref 64, .int (nI o), .int x] M (.inl (some (.int (nI 0)))) (cdM (cdM M 0) 1) := by
  refine sp_of hf (by decide +kernel) (Nat.le_of_ble_eq_true rfl) (by intro v hv; simp at hv; rcases hv with rfl | rfl | rfl <;> rfl) rfl ?_
  have hO0 : MO (cdM M 0) oc rg mc lo hi mb := hO.congr rfl (fun a k h1 h2 => cdM_no (by omega))
  obtain ⟨h1, h2, h3, h4, h5, h6⟩ := hO
  have h0r : ∀ o, o < oc → (cdM M 0).1 65 o = nI (rg o) := fun o h => (h3 o h).1
  have h0m : ∀ o, o < oc → (cdM M 0).1 68 o = nI (mc o) := fun o h => (h5 o h).1
  refine e_aload_0 dX4_addMember_0 rfl ?_
  refine e_iconst (v := nI 0) dX4_addMember_1 rfl ic_0 ?_
  refine e_putI dX4_addMember_2 rfl lkX4_68 rfl rfl rfl ps_64 (by decide) (by decide) ?_
  refine e_aload_0 dX4_addMember_5 rfl ?_
  refine e_iload_1 dX4_addMember_6 rfl ?_
  refine e_callV dX4_addMember_7 rfl csX4_93 (m_isObject_y (M := (cdM M 0)) hf hO0.2.1 hO0.1 ho) rfl rfl ps_64 (by decide) (by decide) ⟨Nat.le_of_ble_eq_true rfl, Nat.le_of_ble_eq_true rfl⟩ ⟨Nat.le_of_ble_eq_true rfl, Nat.le_of_ble_eq_true rfl⟩ rfl rfl (Nat.le_of_ble_eq_true rfl) ?_
  refine e_if_eq_f dX4_addMember_10 rfl ⟨21, by decide⟩ (by decide) ?_
  refine e_aload_0 dX4_addMember_13 rfl ?_
  refine e_iload_2 dX4_addMember_14 rfl ?_
  refine e_callV dX4_addMember_15 rfl csX4_93 (m_isObject_n (M := (cdM M 0)) hf hO0.2.1 hO0.1 hx) rfl rfl ps_64 (by decide) (by decide) ⟨Nat.le_of_ble_eq_true rfl, Nat.le_of_ble_eq_true rfl⟩ ⟨Nat.le_of_ble_eq_true rfl, Nat.le_of_ble_eq_true rfl⟩ rfl rfl (Nat.le_of_ble_eq_true rfl) ?_
  refine e_if_ne_f dX4_addMember_18 rfl ⟨27, by decide⟩ (by decide) ?_
  refine e_aload_0 dX4_addMember_21 rfl ?_
  refine e_iconst (v := nI 1) dX4_addMember_22 rfl ic_1 ?_
  refine e_callV dX4_addMember_23 rfl csX4_90 (m_fails (M := (cdM M 0)) (k := 1) hf hmr) rfl rfl ps_64 (by decide) (by decide) ⟨Nat.le_of_ble_eq_true rfl, Nat.le_of_ble_eq_true rfl⟩ ⟨Nat.le_of_ble_eq_true rfl, Nat.le_of_ble_eq_true rfl⟩ rfl rfl (Nat.le_of_ble_eq_true rfl) ?_
  exact e_iret dX4_addMember_26 rfl rfl (Nat.le_of_ble_eq_true rfl) (Nat.le_of_ble_eq_true rfl) rfl rfl
theorem m_addMember_no3 {l : Launch} (hf : l.stackTraces = false) {M : pmM} {od : Nat → Nat} (hmr : M.2.1 = mrC od) {oc : Nat} {rg mc : Nat → Nat} {lo hi mb : Nat → Nat → Nat} (hO : MO M oc rg mc lo hi mb) {o : Nat} (ho : o < oc) : Sp l kX4_addMember 86 2 0 0 [.ref 64, .int (nI o), .int (nI o)] M (.inl (some (.int (nI 0)))) (cdM (cdM M 0) 2) := by
  refine sp_of hf (by decide +kernel) (Nat.le_of_ble_eq_true rfl) (by intro v hv; simp at hv; rcases hv with rfl | rfl | rfl <;> rfl) rfl ?_
  have hO0 : MO (cdM M 0) oc rg mc lo hi mb := hO.congr rfl (fun a k h1 h2 => cdM_no (by omega))
  obtain ⟨h1, h2, h3, h4, h5, h6⟩ := hO
  have h0r : ∀ o, o < oc → (cdM M 0).1 65 o = nI (rg o) := fun o h => (h3 o h).1
  have h0m : ∀ o, o < oc → (cdM M 0).1 68 o = nI (mc o) := fun o h => (h5 o h).1
  refine e_aload_0 dX4_addMember_0 rfl ?_
  refine e_iconst (v := nI 0) dX4_addMember_1 rfl ic_0 ?_
  refine e_putI dX4_addMember_2 rfl lkX4_68 rfl rfl rfl ps_64 (by decide) (by decide) ?_
  refine e_aload_0 dX4_addMember_5 rfl ?_
  refine e_iload_1 dX4_addMember_6 rfl ?_
  refine e_callV dX4_addMember_7 rfl csX4_93 (m_isObject_y (M := (cdM M 0)) hf hO0.2.1 hO0.1 ho) rfl rfl ps_64 (by decide) (by decide) ⟨Nat.le_of_ble_eq_true rfl, Nat.le_of_ble_eq_true rfl⟩ ⟨Nat.le_of_ble_eq_true rfl, Nat.le_of_ble_eq_true rfl⟩ rfl rfl (Nat.le_of_ble_eq_true rfl) ?_
  refine e_if_eq_f dX4_addMember_10 rfl ⟨21, by decide⟩ (by decide) ?_
  refine e_aload_0 dX4_addMember_13 rfl ?_
  refine e_iload_2 dX4_addMember_14 rfl ?_
  refine e_callV dX4_addMember_15 rfl csX4_93 (m_isObject_y (M := (cdM M 0)) hf hO0.2.1 hO0.1 ho) rfl rfl ps_64 (by decide) (by decide) ⟨Nat.le_of_ble_eq_true rfl, Nat.le_of_ble_eq_true rfl⟩ ⟨Nat.le_of_ble_eq_true rfl, Nat.le_of_ble_eq_true rfl⟩ rfl rfl (Nat.le_of_ble_eq_true rfl) ?_
  refine e_if_ne_t (tgt := 27) dX4_addMember_18 (by decide) (by decide) ?_
  refine e_iload_1 dX4_addMember_27 rfl ?_
  refine e_iload_2 dX4_addMember_28 rfl ?_
  refine e_nc_eq_t (tgt := 42) dX4_addMember_29 (by decide) (by omega) (by omega) rfl ?_
  refine e_aload_0 dX4_addMember_42 rfl ?_
  refine e_iconst (v := nI 2) dX4_addMember_43 rfl ic_2 ?_
  refine e_callV dX4_addMember_44 rfl csX4_90 (m_fails (M := (cdM M 0)) (k := 2) hf hmr) rfl rfl ps_64 (by decide) (by decide) ⟨Nat.le_of_ble_eq_true rfl, Nat.le_of_ble_eq_true rfl⟩ ⟨Nat.le_of_ble_eq_true rfl, Nat.le_of_ble_eq_true rfl⟩ rfl rfl (Nat.le_of_ble_eq_true rfl) ?_
  exact e_iret dX4_addMember_47 rfl rfl (Nat.le_of_ble_eq_true rfl) (Nat.le_of_ble_eq_true rfl) rfl rfl
theorem m_addMember_no4 {l : Launch} (hf : l.stackTraces = false) {M : pmM} {od : Nat → Nat} (hmr : M.2.1 = mrC od) {oc : Nat} {rg mc : Nat → Nat} {lo hi mb : Nat → Nat → Nat} (hO : MO M oc rg mc lo hi mb) {o : Nat} (ho : o < oc) {m : Nat} (hm : m < oc) (hne : o ≠ m) {k : Nat} (hk : k < mc o) (hxk : mb o k = m) (hnk : ∀ j, j < k → mb o j ≠ m) : Sp l kX4_addMember 86 2 0 0 [.ref 64, .int (nI o), .int (nI m)] M (.inl (some (.int (nI 0)))) (cdM (cdM M 0) 2) := by
  refine sp_of hf (by decide +kernel) (Nat.le_of_ble_eq_true rfl) (by intro v hv; simp at hv; rcases hv with rfl | rfl | rfl <;> rfl) rfl ?_
  have hO0 : MO (cdM M 0) oc rg mc lo hi mb := hO.congr rfl (fun a k h1 h2 => cdM_no (by omega))
  obtain ⟨h1, h2, h3, h4, h5, h6⟩ := hO
  have h0r : ∀ o, o < oc → (cdM M 0).1 65 o = nI (rg o) := fun o h => (h3 o h).1
  have h0m : ∀ o, o < oc → (cdM M 0).1 68 o = nI (mc o) := fun o h => (h5 o h).1
  have hc2 := (h5 o ho).2
  refine e_aload_0 dX4_addMember_0 rfl ?_
  refine e_iconst (v := nI 0) dX4_addMember_1 rfl ic_0 ?_
  refine e_putI dX4_addMember_2 rfl lkX4_68 rfl rfl rfl ps_64 (by decide) (by decide) ?_
  refine e_aload_0 dX4_addMember_5 rfl ?_
  refine e_iload_1 dX4_addMember_6 rfl ?_
  refine e_callV dX4_addMember_7 rfl csX4_93 (m_isObject_y (M := (cdM M 0)) hf hO0.2.1 hO0.1 ho) rfl rfl ps_64 (by decide) (by decide) ⟨Nat.le_of_ble_eq_true rfl, Nat.le_of_ble_eq_true rfl⟩ ⟨Nat.le_of_ble_eq_true rfl, Nat.le_of_ble_eq_true rfl⟩ rfl rfl (Nat.le_of_ble_eq_true rfl) ?_
  refine e_if_eq_f dX4_addMember_10 rfl ⟨21, by decide⟩ (by decide) ?_
  refine e_aload_0 dX4_addMember_13 rfl ?_
  refine e_iload_2 dX4_addMember_14 rfl ?_
  refine e_callV dX4_addMember_15 rfl csX4_93 (m_isObject_y (M := (cdM M 0)) hf hO0.2.1 hO0.1 hm) rfl rfl ps_64 (by decide) (by decide) ⟨Nat.le_of_ble_eq_true rfl, Nat.le_of_ble_eq_true rfl⟩ ⟨Nat.le_of_ble_eq_true rfl, Nat.le_of_ble_eq_true rfl⟩ rfl rfl (Nat.le_of_ble_eq_true rfl) ?_
  refine e_if_ne_t (tgt := 27) dX4_addMember_18 (by decide) (by decide) ?_
  refine e_iload_1 dX4_addMember_27 rfl ?_
  refine e_iload_2 dX4_addMember_28 rfl ?_
  refine e_nc_eq_f dX4_addMember_29 rfl ⟨42, by decide⟩ (by omega) (by omega) hne ?_
  refine e_aload_0 dX4_addMember_32 rfl ?_
  refine e_iload_1 dX4_addMember_33 rfl ?_
  refine e_iload_2 dX4_addMember_34 rfl ?_
  refine e_callV dX4_addMember_35 rfl csX4_97 (m_memberAt_ok (M := (cdM M 0)) hf hmr hO0 ho (by omega) hk hxk hnk) rfl rfl ps_64 (by decide) (by decide) ⟨Nat.le_of_ble_eq_true rfl, Nat.le_of_ble_eq_true rfl⟩ ⟨Nat.le_of_ble_eq_true rfl, Nat.le_of_ble_eq_true rfl⟩ rfl rfl (Nat.le_of_ble_eq_true rfl) ?_
  refine e_iconst (v := -1) dX4_addMember_38 rfl ic_m1 ?_
  refine e_ic_eq_f dX4_addMember_39 rfl ⟨48, by decide⟩ (nI_m1 (by omega)) ?_
  refine e_aload_0 dX4_addMember_42 rfl ?_
  refine e_iconst (v := nI 2) dX4_addMember_43 rfl ic_2 ?_
  refine e_callV dX4_addMember_44 rfl csX4_90 (m_fails (M := (cdM M 0)) (k := 2) hf hmr) rfl rfl ps_64 (by decide) (by decide) ⟨Nat.le_of_ble_eq_true rfl, Nat.le_of_ble_eq_true rfl⟩ ⟨Nat.le_of_ble_eq_true rfl, Nat.le_of_ble_eq_true rfl⟩ rfl rfl (Nat.le_of_ble_eq_true rfl) ?_
  exact e_iret dX4_addMember_47 rfl rfl (Nat.le_of_ble_eq_true rfl) (Nat.le_of_ble_eq_true rfl) rfl rfl
theorem m_addMember_no5 {l : Launch} (hf : l.stackTraces = false) {M : pmM} {od : Nat → Nat} (hmr : M.2.1 = mrC od) {oc : Nat} {rg mc : Nat → Nat} {lo hi mb : Nat → Nat → Nat} (hO : MO M oc rg mc lo hi mb) {o : Nat} (ho : o < oc) {m : Nat} (hm : m < oc) (hne : o ≠ m) (hnm : ∀ j, j < mc o → mb o j ≠ m) (hnd : hasb (dpS oc mc mb o) m = true) : Sp l kX4_addMember 86 2 0 0 [.ref 64, .int (nI o), .int (nI m)] M (.inl (some (.int (nI 0)))) (cdM (cdM M 0) 3) := by
  refine sp_of hf (by decide +kernel) (Nat.le_of_ble_eq_true rfl) (by intro v hv; simp at hv; rcases hv with rfl | rfl | rfl <;> rfl) rfl ?_
  have hO0 : MO (cdM M 0) oc rg mc lo hi mb := hO.congr rfl (fun a k h1 h2 => cdM_no (by omega))
  obtain ⟨h1, h2, h3, h4, h5, h6⟩ := hO
  have h0r : ∀ o, o < oc → (cdM M 0).1 65 o = nI (rg o) := fun o h => (h3 o h).1
  have h0m : ∀ o, o < oc → (cdM M 0).1 68 o = nI (mc o) := fun o h => (h5 o h).1
  refine e_aload_0 dX4_addMember_0 rfl ?_
  refine e_iconst (v := nI 0) dX4_addMember_1 rfl ic_0 ?_
  refine e_putI dX4_addMember_2 rfl lkX4_68 rfl rfl rfl ps_64 (by decide) (by decide) ?_
  refine e_aload_0 dX4_addMember_5 rfl ?_
  refine e_iload_1 dX4_addMember_6 rfl ?_
  refine e_callV dX4_addMember_7 rfl csX4_93 (m_isObject_y (M := (cdM M 0)) hf hO0.2.1 hO0.1 ho) rfl rfl ps_64 (by decide) (by decide) ⟨Nat.le_of_ble_eq_true rfl, Nat.le_of_ble_eq_true rfl⟩ ⟨Nat.le_of_ble_eq_true rfl, Nat.le_of_ble_eq_true rfl⟩ rfl rfl (Nat.le_of_ble_eq_true rfl) ?_
  refine e_if_eq_f dX4_addMember_10 rfl ⟨21, by decide⟩ (by decide) ?_
  refine e_aload_0 dX4_addMember_13 rfl ?_
  refine e_iload_2 dX4_addMember_14 rfl ?_
  refine e_callV dX4_addMember_15 rfl csX4_93 (m_isObject_y (M := (cdM M 0)) hf hO0.2.1 hO0.1 hm) rfl rfl ps_64 (by decide) (by decide) ⟨Nat.le_of_ble_eq_true rfl, Nat.le_of_ble_eq_true rfl⟩ ⟨Nat.le_of_ble_eq_true rfl, Nat.le_of_ble_eq_true rfl⟩ rfl rfl (Nat.le_of_ble_eq_true rfl) ?_
  refine e_if_ne_t (tgt := 27) dX4_addMember_18 (by decide) (by decide) ?_
  refine e_iload_1 dX4_addMember_27 rfl ?_
  refine e_iload_2 dX4_addMember_28 rfl ?_
  refine e_nc_eq_f dX4_addMember_29 rfl ⟨42, by decide⟩ (by omega) (by omega) hne ?_
  refine e_aload_0 dX4_addMember_32 rfl ?_
  refine e_iload_1 dX4_addMember_33 rfl ?_
  refine e_iload_2 dX4_addMember_34 rfl ?_
  refine e_callV dX4_addMember_35 rfl csX4_97 (m_memberAt_no (M := (cdM M 0)) hf hmr hO0 ho (by omega) hnm) rfl rfl ps_64 (by decide) (by decide) ⟨Nat.le_of_ble_eq_true rfl, Nat.le_of_ble_eq_true rfl⟩ ⟨Nat.le_of_ble_eq_true rfl, Nat.le_of_ble_eq_true rfl⟩ rfl rfl (Nat.le_of_ble_eq_true rfl) ?_
  refine e_iconst (v := -1) dX4_addMember_38 rfl ic_m1 ?_
  refine e_ic_eq_t (tgt := 48) dX4_addMember_39 (by decide) rfl ?_
  refine e_aload_0 dX4_addMember_48 rfl ?_
  refine e_iload_1 dX4_addMember_49 rfl ?_
  refine e_callV dX4_addMember_50 rfl csX4_100 (m_dependents (M := (cdM M 0)) hf hmr hO0 ho) rfl rfl ps_64 (by decide) (by decide) ⟨Nat.le_of_ble_eq_true rfl, Nat.le_of_ble_eq_true rfl⟩ ⟨Nat.le_of_ble_eq_true rfl, Nat.le_of_ble_eq_true rfl⟩ rfl rfl (Nat.le_of_ble_eq_true rfl) ?_
  refine e_iload_2 dX4_addMember_53 rfl ?_
  refine e_ishr dX4_addMember_54 rfl ?_
  refine e_iconst (v := nI 1) dX4_addMember_55 rfl ic_1 ?_
  refine e_iand dX4_addMember_56 rfl ?_
  refine e_iconst (v := nI 1) dX4_addMember_57 rfl ic_1 ?_
  refine e_ic_ne_f dX4_addMember_58 rfl ⟨67, by decide⟩ (shr_1 _ (by omega) hnd) ?_
  refine e_aload_0 dX4_addMember_61 rfl ?_
  refine e_iconst (v := nI 3) dX4_addMember_62 rfl ic_3 ?_
  refine e_callV dX4_addMember_63 rfl csX4_90 (m_fails (M := (cdM M 0)) (k := 3) hf hmr) rfl rfl ps_64 (by decide) (by decide) ⟨Nat.le_of_ble_eq_true rfl, Nat.le_of_ble_eq_true rfl⟩ ⟨Nat.le_of_ble_eq_true rfl, Nat.le_of_ble_eq_true rfl⟩ rfl rfl (Nat.le_of_ble_eq_true rfl) ?_
  exact e_iret dX4_addMember_66 rfl rfl (Nat.le_of_ble_eq_true rfl) (Nat.le_of_ble_eq_true rfl) rfl rfl
theorem m_addMember_no6 {l : Launch} (hf : l.stackTraces = false) {M : pmM} {od : Nat → Nat} (hmr : M.2.1 = mrC od) {oc : Nat} {rg mc : Nat → Nat} {lo hi mb : Nat → Nat → Nat} (hO : MO M oc rg mc lo hi mb) {o : Nat} (ho : o < oc) {m : Nat} (hm : m < oc) (hne : o ≠ m) (hnm : ∀ j, j < mc o → mb o j ≠ m) (hnd : hasb (dpS oc mc mb o) m = false) (hlt : mc o = 2) : Sp l kX4_addMember 86 2 0 0 [.ref 64, .int (nI o), .int (nI m)] M (.inl (some (.int (nI 0)))) (cdM (cdM M 0) 4) := by
  refine sp_of hf (by decide +kernel) (Nat.le_of_ble_eq_true rfl) (by intro v hv; simp at hv; rcases hv with rfl | rfl | rfl <;> rfl) rfl ?_
  have hO0 : MO (cdM M 0) oc rg mc lo hi mb := hO.congr rfl (fun a k h1 h2 => cdM_no (by omega))
  obtain ⟨h1, h2, h3, h4, h5, h6⟩ := hO
  have h0r : ∀ o, o < oc → (cdM M 0).1 65 o = nI (rg o) := fun o h => (h3 o h).1
  have h0m : ∀ o, o < oc → (cdM M 0).1 68 o = nI (mc o) := fun o h => (h5 o h).1
  refine e_aload_0 dX4_addMember_0 rfl ?_
  refine e_iconst (v := nI 0) dX4_addMember_1 rfl ic_0 ?_
  refine e_putI dX4_addMember_2 rfl lkX4_68 rfl rfl rfl ps_64 (by decide) (by decide) ?_
  refine e_aload_0 dX4_addMember_5 rfl ?_
  refine e_iload_1 dX4_addMember_6 rfl ?_
  refine e_callV dX4_addMember_7 rfl csX4_93 (m_isObject_y (M := (cdM M 0)) hf hO0.2.1 hO0.1 ho) rfl rfl ps_64 (by decide) (by decide) ⟨Nat.le_of_ble_eq_true rfl, Nat.le_of_ble_eq_true rfl⟩ ⟨Nat.le_of_ble_eq_true rfl, Nat.le_of_ble_eq_true rfl⟩ rfl rfl (Nat.le_of_ble_eq_true rfl) ?_
  refine e_if_eq_f dX4_addMember_10 rfl ⟨21, by decide⟩ (by decide) ?_
  refine e_aload_0 dX4_addMember_13 rfl ?_
  refine e_iload_2 dX4_addMember_14 rfl ?_
  refine e_callV dX4_addMember_15 rfl csX4_93 (m_isObject_y (M := (cdM M 0)) hf hO0.2.1 hO0.1 hm) rfl rfl ps_64 (by decide) (by decide) ⟨Nat.le_of_ble_eq_true rfl, Nat.le_of_ble_eq_true rfl⟩ ⟨Nat.le_of_ble_eq_true rfl, Nat.le_of_ble_eq_true rfl⟩ rfl rfl (Nat.le_of_ble_eq_true rfl) ?_
  refine e_if_ne_t (tgt := 27) dX4_addMember_18 (by decide) (by decide) ?_
  refine e_iload_1 dX4_addMember_27 rfl ?_
  refine e_iload_2 dX4_addMember_28 rfl ?_
  refine e_nc_eq_f dX4_addMember_29 rfl ⟨42, by decide⟩ (by omega) (by omega) hne ?_
  refine e_aload_0 dX4_addMember_32 rfl ?_
  refine e_iload_1 dX4_addMember_33 rfl ?_
  refine e_iload_2 dX4_addMember_34 rfl ?_
  refine e_callV dX4_addMember_35 rfl csX4_97 (m_memberAt_no (M := (cdM M 0)) hf hmr hO0 ho (by omega) hnm) rfl rfl ps_64 (by decide) (by decide) ⟨Nat.le_of_ble_eq_true rfl, Nat.le_of_ble_eq_true rfl⟩ ⟨Nat.le_of_ble_eq_true rfl, Nat.le_of_ble_eq_true rfl⟩ rfl rfl (Nat.le_of_ble_eq_true rfl) ?_
  refine e_iconst (v := -1) dX4_addMember_38 rfl ic_m1 ?_
  refine e_ic_eq_t (tgt := 48) dX4_addMember_39 (by decide) rfl ?_
  refine e_aload_0 dX4_addMember_48 rfl ?_
  refine e_iload_1 dX4_addMember_49 rfl ?_
  refine e_callV dX4_addMember_50 rfl csX4_100 (m_dependents (M := (cdM M 0)) hf hmr hO0 ho) rfl rfl ps_64 (by decide) (by decide) ⟨Nat.le_of_ble_eq_true rfl, Nat.le_of_ble_eq_true rfl⟩ ⟨Nat.le_of_ble_eq_true rfl, Nat.le_of_ble_eq_true rfl⟩ rfl rfl (Nat.le_of_ble_eq_true rfl) ?_
  refine e_iload_2 dX4_addMember_53 rfl ?_
  refine e_ishr dX4_addMember_54 rfl ?_
  refine e_iconst (v := nI 1) dX4_addMember_55 rfl ic_1 ?_
  refine e_iand dX4_addMember_56 rfl ?_
  refine e_iconst (v := nI 1) dX4_addMember_57 rfl ic_1 ?_
  refine e_ic_ne_t (tgt := 67) dX4_addMember_58 (by decide) (shr_n1 _ (by omega) hnd) ?_
  refine e_aload_0 dX4_addMember_67 rfl ?_
  refine e_getR dX4_addMember_68 rfl lkX4_19 rfl ps_64 (by decide) (by decide) (mr_of hmr rfl) ?_
  refine e_iload_1 dX4_addMember_71 rfl ?_
  refine e_iald dX4_addMember_72 rfl ps_68 (by decide) rfl (by omega) ?_
  refine e_topi (nI (mc o)) (h0m o ho) ?_
  refine e_iconst (v := nI 2) dX4_addMember_73 rfl ic_2 ?_
  refine e_nc_ne_f dX4_addMember_74 rfl ⟨83, by decide⟩ (by omega) (by omega) hlt ?_
  refine e_aload_0 dX4_addMember_77 rfl ?_
  refine e_iconst (v := nI 4) dX4_addMember_78 rfl ic_4 ?_
  refine e_callV dX4_addMember_79 rfl csX4_90 (m_fails (M := (cdM M 0)) (k := 4) hf hmr) rfl rfl ps_64 (by decide) (by decide) ⟨Nat.le_of_ble_eq_true rfl, Nat.le_of_ble_eq_true rfl⟩ ⟨Nat.le_of_ble_eq_true rfl, Nat.le_of_ble_eq_true rfl⟩ rfl rfl (Nat.le_of_ble_eq_true rfl) ?_
  exact e_iret dX4_addMember_82 rfl rfl (Nat.le_of_ble_eq_true rfl) (Nat.le_of_ble_eq_true rfl) rfl rfl
theorem m_removeMember_ok {l : Launch} (hf : l.stackTraces = false) {M : pmM} {od : Nat → Nat} (hmr : M.2.1 = mrC od) {oc : Nat} {rg mc : Nat → Nat} {lo hi mb : Nat → Nat → Nat} (hO : MO M oc rg mc lo hi mb) {o : Nat} (ho : o < oc) {m : Nat} (hm : m < oc) {k : Nat} (hk : k < mc o) (hxk : mb o k = m) (hnk : ∀ j, j < k → mb o j ≠ m) : Sp l kX4_removeMember 86 2 0 0 [.ref 64, .int (nI o), .int (nI m)] M (.inl (some (.int (nI (mc o - 1))))) (mnM M o k (mc o)) := by
  refine sp_of hf (by decide +kernel) (Nat.le_of_ble_eq_true rfl) (by intro v hv; simp at hv; rcases hv with rfl | rfl | rfl <;> rfl) rfl ?_
  have hO0 : MO (cdM M 0) oc rg mc lo hi mb := hO.congr rfl (fun a k h1 h2 => cdM_no (by omega))
  obtain ⟨h1, h2, h3, h4, h5, h6⟩ := hO
  have h0r : ∀ o, o < oc → (cdM M 0).1 65 o = nI (rg o) := fun o h => (h3 o h).1
  have h0m : ∀ o, o < oc → (cdM M 0).1 68 o = nI (mc o) := fun o h => (h5 o h).1
  have hc2 := (h5 o ho).2
  by_cases hk0 : k = 0
  · subst hk0
    refine e_aload_0 dX4_removeMember_0 rfl ?_
    refine e_iconst (v := nI 0) dX4_removeMember_1 rfl ic_0 ?_
    refine e_putI dX4_removeMember_2 rfl lkX4_68 rfl rfl rfl ps_64 (by decide) (by decide) ?_
    refine e_aload_0 dX4_removeMember_5 rfl ?_
    refine e_iload_1 dX4_removeMember_6 rfl ?_
    refine e_callV dX4_removeMember_7 rfl csX4_93 (m_isObject_y (M := (cdM M 0)) hf hO0.2.1 hO0.1 ho) rfl rfl ps_64 (by decide) (by decide) ⟨Nat.le_of_ble_eq_true rfl, Nat.le_of_ble_eq_true rfl⟩ ⟨Nat.le_of_ble_eq_true rfl, Nat.le_of_ble_eq_true rfl⟩ rfl rfl (Nat.le_of_ble_eq_true rfl) ?_
    refine e_if_eq_f dX4_removeMember_10 rfl ⟨21, by decide⟩ (by decide) ?_
    refine e_aload_0 dX4_removeMember_13 rfl ?_
    refine e_iload_2 dX4_removeMember_14 rfl ?_
    refine e_callV dX4_removeMember_15 rfl csX4_93 (m_isObject_y (M := (cdM M 0)) hf hO0.2.1 hO0.1 hm) rfl rfl ps_64 (by decide) (by decide) ⟨Nat.le_of_ble_eq_true rfl, Nat.le_of_ble_eq_true rfl⟩ ⟨Nat.le_of_ble_eq_true rfl, Nat.le_of_ble_eq_true rfl⟩ rfl rfl (Nat.le_of_ble_eq_true rfl) ?_
    refine e_if_ne_t (tgt := 27) dX4_removeMember_18 (by decide) (by decide) ?_
    refine e_aload_0 dX4_removeMember_27 rfl ?_
    refine e_iload_1 dX4_removeMember_28 rfl ?_
    refine e_iload_2 dX4_removeMember_29 rfl ?_
    refine e_callV dX4_removeMember_30 rfl csX4_97 (m_memberAt_ok (M := (cdM M 0)) hf hmr hO0 ho (by omega) hk hxk hnk) rfl rfl ps_64 (by decide) (by decide) ⟨Nat.le_of_ble_eq_true rfl, Nat.le_of_ble_eq_true rfl⟩ ⟨Nat.le_of_ble_eq_true rfl, Nat.le_of_ble_eq_true rfl⟩ rfl rfl (Nat.le_of_ble_eq_true rfl) ?_
    refine e_istore_3 dX4_removeMember_33 rfl (Nat.le_of_ble_eq_true rfl) rfl ?_
    refine e_iload_3 dX4_removeMember_34 rfl ?_
    refine e_iconst (v := -1) dX4_removeMember_35 rfl ic_m1 ?_
    refine e_ic_ne_t (tgt := 45) dX4_removeMember_36 (by decide) (nI_m1 (by omega)) ?_
    refine e_iload_3 dX4_removeMember_45 rfl ?_
    refine e_if_ne_f dX4_removeMember_46 rfl ⟨67, by decide⟩ rfl ?_
    refine e_aload_0 dX4_removeMember_49 rfl ?_
    refine e_getR dX4_removeMember_50 rfl lkX4_22 rfl ps_64 (by decide) (by decide) (mr_of hmr rfl) ?_
    refine e_iconst (v := nI 2) dX4_removeMember_53 rfl ic_2 ?_
    refine e_iload_1 dX4_removeMember_54 rfl ?_
    refine e_imul dX4_removeMember_55 rfl ?_
    refine e_topi (nI (2 * o)) (pk_mul _ _) ?_
    refine e_aload_0 dX4_removeMember_56 rfl ?_
    refine e_getR dX4_removeMember_57 rfl lkX4_22 rfl ps_64 (by decide) (by decide) (mr_of hmr rfl) ?_
    refine e_iconst (v := nI 2) dX4_removeMember_60 rfl ic_2 ?_
    refine e_iload_1 dX4_removeMember_61 rfl ?_
    refine e_imul dX4_removeMember_62 rfl ?_
    refine e_topi (nI (2 * o)) (pk_mul _ _) ?_
    refine e_iconst (v := nI 1) dX4_removeMember_63 rfl ic_1 ?_
    refine e_iadd dX4_removeMember_64 rfl ?_
    refine e_topi (nI (2 * o + 1)) (nI_add _ _) ?_
    refine e_iald dX4_removeMember_65 rfl ps_69 (by decide) rfl (by omega) ?_
    refine e_iast dX4_removeMember_66 rfl ps_69 (by decide) rfl (by omega) ?_
    refine e_aload_0 dX4_removeMember_67 rfl ?_
    refine e_getR dX4_removeMember_68 rfl lkX4_19 rfl ps_64 (by decide) (by decide) (mr_of hmr rfl) ?_
    refine e_iload_1 dX4_removeMember_71 rfl ?_
    refine e_dup2 dX4_removeMember_72 rfl rfl rfl ?_
    refine e_iald dX4_removeMember_73 rfl ps_68 (by decide) rfl (by omega) ?_
    refine e_topi (nI (mc o)) (h0m o ho) ?_
    refine e_iconst (v := nI 1) dX4_removeMember_74 rfl ic_1 ?_
    refine e_isub dX4_removeMember_75 rfl ?_
    refine e_topi (nI (mc o - 1)) (pk_sub (by omega)) ?_
    refine e_iast dX4_removeMember_76 rfl ps_68 (by decide) rfl (by omega) ?_
    refine e_aload_0 dX4_removeMember_77 rfl ?_
    refine e_getR dX4_removeMember_78 rfl lkX4_19 rfl ps_64 (by decide) (by decide) (mr_of hmr rfl) ?_
    refine e_iload_1 dX4_removeMember_81 rfl ?_
    refine e_iald dX4_removeMember_82 rfl ps_68 (by decide) rfl (by omega) ?_
    refine e_topi (nI (mc o - 1)) pm2_e ?_
    exact e_iret dX4_removeMember_83 rfl rfl (Nat.le_of_ble_eq_true rfl) (Nat.le_of_ble_eq_true rfl) rfl (by rw [mnM, if_pos rfl]; rfl)
  · refine e_aload_0 dX4_removeMember_0 rfl ?_
    refine e_iconst (v := nI 0) dX4_removeMember_1 rfl ic_0 ?_
    refine e_putI dX4_removeMember_2 rfl lkX4_68 rfl rfl rfl ps_64 (by decide) (by decide) ?_
    refine e_aload_0 dX4_removeMember_5 rfl ?_
    refine e_iload_1 dX4_removeMember_6 rfl ?_
    refine e_callV dX4_removeMember_7 rfl csX4_93 (m_isObject_y (M := (cdM M 0)) hf hO0.2.1 hO0.1 ho) rfl rfl ps_64 (by decide) (by decide) ⟨Nat.le_of_ble_eq_true rfl, Nat.le_of_ble_eq_true rfl⟩ ⟨Nat.le_of_ble_eq_true rfl, Nat.le_of_ble_eq_true rfl⟩ rfl rfl (Nat.le_of_ble_eq_true rfl) ?_
    refine e_if_eq_f dX4_removeMember_10 rfl ⟨21, by decide⟩ (by decide) ?_
    refine e_aload_0 dX4_removeMember_13 rfl ?_
    refine e_iload_2 dX4_removeMember_14 rfl ?_
    refine e_callV dX4_removeMember_15 rfl csX4_93 (m_isObject_y (M := (cdM M 0)) hf hO0.2.1 hO0.1 hm) rfl rfl ps_64 (by decide) (by decide) ⟨Nat.le_of_ble_eq_true rfl, Nat.le_of_ble_eq_true rfl⟩ ⟨Nat.le_of_ble_eq_true rfl, Nat.le_of_ble_eq_true rfl⟩ rfl rfl (Nat.le_of_ble_eq_true rfl) ?_
    refine e_if_ne_t (tgt := 27) dX4_removeMember_18 (by decide) (by decide) ?_
    refine e_aload_0 dX4_removeMember_27 rfl ?_
    refine e_iload_1 dX4_removeMember_28 rfl ?_
    refine e_iload_2 dX4_removeMember_29 rfl ?_
    refine e_callV dX4_removeMember_30 rfl csX4_97 (m_memberAt_ok (M := (cdM M 0)) hf hmr hO0 ho (by omega) hk hxk hnk) rfl rfl ps_64 (by decide) (by decide) ⟨Nat.le_of_ble_eq_true rfl, Nat.le_of_ble_eq_true rfl⟩ ⟨Nat.le_of_ble_eq_true rfl, Nat.le_of_ble_eq_true rfl⟩ rfl rfl (Nat.le_of_ble_eq_true rfl) ?_
    refine e_istore_3 dX4_removeMember_33 rfl (Nat.le_of_ble_eq_true rfl) rfl ?_
    refine e_iload_3 dX4_removeMember_34 rfl ?_
    refine e_iconst (v := -1) dX4_removeMember_35 rfl ic_m1 ?_
    refine e_ic_ne_t (tgt := 45) dX4_removeMember_36 (by decide) (nI_m1 (by omega)) ?_
    refine e_iload_3 dX4_removeMember_45 rfl ?_
    refine e_if_ne_t (tgt := 67) dX4_removeMember_46 (by decide) (nI_ne0 (by omega) (by omega)) ?_
    refine e_aload_0 dX4_removeMember_67 rfl ?_
    refine e_getR dX4_removeMember_68 rfl lkX4_19 rfl ps_64 (by decide) (by decide) (mr_of hmr rfl) ?_
    refine e_iload_1 dX4_removeMember_71 rfl ?_
    refine e_dup2 dX4_removeMember_72 rfl rfl rfl ?_
    refine e_iald dX4_removeMember_73 rfl ps_68 (by decide) rfl (by omega) ?_
    refine e_topi (nI (mc o)) (h0m o ho) ?_
    refine e_iconst (v := nI 1) dX4_removeMember_74 rfl ic_1 ?_
    refine e_isub dX4_removeMember_75 rfl ?_
    refine e_topi (nI (mc o - 1)) (pk_sub (by omega)) ?_
    refine e_iast dX4_removeMember_76 rfl ps_68 (by decide) rfl (by omega) ?_
    refine e_aload_0 dX4_removeMember_77 rfl ?_
    refine e_getR dX4_removeMember_78 rfl lkX4_19 rfl ps_64 (by decide) (by decide) (mr_of hmr rfl) ?_
    refine e_iload_1 dX4_removeMember_81 rfl ?_
    refine e_iald dX4_removeMember_82 rfl ps_68 (by decide) rfl (by omega) ?_
    refine e_topi (nI (mc o - 1)) pm2_e ?_
    exact e_iret dX4_removeMember_83 rfl rfl (Nat.le_of_ble_eq_true rfl) (Nat.le_of_ble_eq_true rfl) rfl (by rw [mnM, if_neg hk0]; rfl)
theorem m_removeMember_no1 {l : Launch} (hf : l.stackTraces = false) {M : pmM} {od : Nat → Nat} (hmr : M.2.1 = mrC od) {oc : Nat} {rg mc : Nat → Nat} {lo hi mb : Nat → Nat → Nat} (hO : MO M oc rg mc lo hi mb) {x : Int32} (hx : ¬ vp_in x oc) {y : Int32} : Sp l kX4_removeMember 86 2 0 0 [.ref 64, .int x, .int y] M (.inl (some (.int (nI 0)))) (cdM (cdM M 0) 1) := by
  refine sp_of hf (by decide +kernel) (Nat.le_of_ble_eq_true rfl) (by intro v hv; simp at hv; rcases hv with rfl | rfl | rfl <;> rfl) rfl ?_
  have hO0 : MO (cdM M 0) oc rg mc lo hi mb := hO.congr rfl (fun a k h1 h2 => cdM_no (by omega))
  obtain ⟨h1, h2, h3, h4, h5, h6⟩ := hO
  have h0r : ∀ o, o < oc → (cdM M 0).1 65 o = nI (rg o) := fun o h => (h3 o h).1
  have h0m : ∀ o, o < oc → (cdM M 0).1 68 o = nI (mc o) := fun o h => (h5 o h).1
  refine e_aload_0 dX4_removeMember_0 rfl ?_
  refine e_iconst (v := nI 0) dX4_removeMember_1 rfl ic_0 ?_
  refine e_putI dX4_removeMember_2 rfl lkX4_68 rfl rfl rfl ps_64 (by decide) (by decide) ?_
  refine e_aload_0 dX4_removeMember_5 rfl ?_
  refine e_iload_1 dX4_removeMember_6 rfl ?_
  refine e_callV dX4_removeMember_7 rfl csX4_93 (m_isObject_n (M := (cdM M 0)) hf hO0.2.1 hO0.1 hx) rfl rfl ps_64 (by decide) (by decide) ⟨Nat.le_of_ble_eq_true rfl, Nat.le_of_ble_eq_true rfl⟩ ⟨Nat.le_of_ble_eq_true rfl, Nat.le_of_ble_eq_true rfl⟩ rfl rfl (Nat.le_of_ble_eq_true rfl) ?_
  refine e_if_eq_t (tgt := 21) dX4_removeMember_10 (by decide) (by decide) ?_
  refine e_aload_0 dX4_removeMember_21 rfl ?_
  refine e_iconst (v := nI 1) dX4_removeMember_22 rfl ic_1 ?_
  refine e_callV dX4_removeMember_23 rfl csX4_90 (m_fails (M := (cdM M 0)) (k := 1) hf hmr) rfl rfl ps_64 (by decide) (by decide) ⟨Nat.le_of_ble_eq_true rfl, Nat.le_of_ble_eq_true rfl⟩ ⟨Nat.le_of_ble_eq_true rfl, Nat.le_of_ble_eq_true rfl⟩ rfl rfl (Nat.le_of_ble_eq_true rfl) ?_
  exact e_iret dX4_removeMember_26 rfl rfl (Nat.le_of_ble_eq_true rfl) (Nat.le_of_ble_eq_true rfl) rfl rfl
theorem m_removeMember_no2 {l : Launch} (hf : l.stackTraces = false) {M : pmM} {od : Nat → Nat} (hmr : M.2.1 = mrC od) {oc : Nat} {rg mc : Nat → Nat} {lo hi mb : Nat → Nat → Nat} (hO : MO M oc rg mc lo hi mb) {o : Nat} (ho : o < oc) {x : Int32} (hx : ¬ vp_in x oc) : Sp l kX4_removeMember 86 2 0 0 [.ref 64, .int (nI o), .int x] M (.inl (some (.int (nI 0)))) (cdM (cdM M 0) 1) := by
  refine sp_of hf (by decide +kernel) (Nat.le_of_ble_eq_true rfl) (by intro v hv; simp at hv; rcases hv with rfl | rfl | rfl <;> rfl) rfl ?_
  have hO0 : MO (cdM M 0) oc rg mc lo hi mb := hO.congr rfl (fun a k h1 h2 => cdM_no (by omega))
  obtain ⟨h1, h2, h3, h4, h5, h6⟩ := hO
  have h0r : ∀ o, o < oc → (cdM M 0).1 65 o = nI (rg o) := fun o h => (h3 o h).1
  have h0m : ∀ o, o < oc → (cdM M 0).1 68 o = nI (mc o) := fun o h => (h5 o h).1
  refine e_aload_0 dX4_removeMember_0 rfl ?_
  refine e_iconst (v := nI 0) dX4_removeMember_1 rfl ic_0 ?_
  refine e_putI dX4_removeMember_2 rfl lkX4_68 rfl rfl rfl ps_64 (by decide) (by decide) ?_
  refine e_aload_0 dX4_removeMember_5 rfl ?_
  refine e_iload_1 dX4_removeMember_6 rfl ?_
  refine e_callV dX4_removeMember_7 rfl csX4_93 (m_isObject_y (M := (cdM M 0)) hf hO0.2.1 hO0.1 ho) rfl rfl ps_64 (by decide) (by decide) ⟨Nat.le_of_ble_eq_true rfl, Nat.le_of_ble_eq_true rfl⟩ ⟨Nat.le_of_ble_eq_true rfl, Nat.le_of_ble_eq_true rfl⟩ rfl rfl (Nat.le_of_ble_eq_true rfl) ?_
  refine e_if_eq_f dX4_removeMember_10 rfl ⟨21, by decide⟩ (by decide) ?_
  refine e_aload_0 dX4_removeMember_13 rfl ?_
  refine e_iload_2 dX4_removeMember_14 rfl ?_
  refine e_callV dX4_removeMember_15 rfl csX4_93 (m_isObject_n (M := (cdM M 0)) hf hO0.2.1 hO0.1 hx) rfl rfl ps_64 (by decide) (by decide) ⟨Nat.le_of_ble_eq_true rfl, Nat.le_of_ble_eq_true rfl⟩ ⟨Nat.le_of_ble_eq_true rfl, Nat.le_of_ble_eq_true rfl⟩ rfl rfl (Nat.le_of_ble_eq_true rfl) ?_
  refine e_if_ne_f dX4_removeMember_18 rfl ⟨27, by decide⟩ (by decide) ?_
  refine e_aload_0 dX4_removeMember_21 rfl ?_
  refine e_iconst (v := nI 1) dX4_removeMember_22 rfl ic_1 ?_
  refine e_callV dX4_removeMember_23 rfl csX4_90 (m_fails (M := (cdM M 0)) (k := 1) hf hmr) rfl rfl ps_64 (by decide) (by decide) ⟨Nat.le_of_ble_eq_true rfl, Nat.le_of_ble_eq_true rfl⟩ ⟨Nat.le_of_ble_eq_true rfl, Nat.le_of_ble_eq_true rfl⟩ rfl rfl (Nat.le_of_ble_eq_true rfl) ?_
  exact e_iret dX4_removeMember_26 rfl rfl (Nat.le_of_ble_eq_true rfl) (Nat.le_of_ble_eq_true rfl) rfl rfl
theorem m_removeMember_no3 {l : Launch} (hf : l.stackTraces = false) {M : pmM} {od : Nat → Nat} (hmr : M.2.1 = mrC od) {oc : Nat} {rg mc : Nat → Nat} {lo hi mb : Nat → Nat → Nat} (hO : MO M oc rg mc lo hi mb) {o : Nat} (ho : o < oc) {m : Nat} (hm : m < oc) (hnm : ∀ j, j < mc o → mb o j ≠ m) : Sp l kX4_removeMember 86 2 0 0 [.ref 64, .int (nI o), .int (nI m)] M (.inl (some (.int (nI 0)))) (cdM (cdM M 0) 2) := by
  refine sp_of hf (by decide +kernel) (Nat.le_of_ble_eq_true rfl) (by intro v hv; simp at hv; rcases hv with rfl | rfl | rfl <;> rfl) rfl ?_
  have hO0 : MO (cdM M 0) oc rg mc lo hi mb := hO.congr rfl (fun a k h1 h2 => cdM_no (by omega))
  obtain ⟨h1, h2, h3, h4, h5, h6⟩ := hO
  have h0r : ∀ o, o < oc → (cdM M 0).1 65 o = nI (rg o) := fun o h => (h3 o h).1
  have h0m : ∀ o, o < oc → (cdM M 0).1 68 o = nI (mc o) := fun o h => (h5 o h).1
  refine e_aload_0 dX4_removeMember_0 rfl ?_
  refine e_iconst (v := nI 0) dX4_removeMember_1 rfl ic_0 ?_
  refine e_putI dX4_removeMember_2 rfl lkX4_68 rfl rfl rfl ps_64 (by decide) (by decide) ?_
  refine e_aload_0 dX4_removeMember_5 rfl ?_
  refine e_iload_1 dX4_removeMember_6 rfl ?_
  refine e_callV dX4_removeMember_7 rfl csX4_93 (m_isObject_y (M := (cdM M 0)) hf hO0.2.1 hO0.1 ho) rfl rfl ps_64 (by decide) (by decide) ⟨Nat.le_of_ble_eq_true rfl, Nat.le_of_ble_eq_true rfl⟩ ⟨Nat.le_of_ble_eq_true rfl, Nat.le_of_ble_eq_true rfl⟩ rfl rfl (Nat.le_of_ble_eq_true rfl) ?_
  refine e_if_eq_f dX4_removeMember_10 rfl ⟨21, by decide⟩ (by decide) ?_
  refine e_aload_0 dX4_removeMember_13 rfl ?_
  refine e_iload_2 dX4_removeMember_14 rfl ?_
  refine e_callV dX4_removeMember_15 rfl csX4_93 (m_isObject_y (M := (cdM M 0)) hf hO0.2.1 hO0.1 hm) rfl rfl ps_64 (by decide) (by decide) ⟨Nat.le_of_ble_eq_true rfl, Nat.le_of_ble_eq_true rfl⟩ ⟨Nat.le_of_ble_eq_true rfl, Nat.le_of_ble_eq_true rfl⟩ rfl rfl (Nat.le_of_ble_eq_true rfl) ?_
  refine e_if_ne_t (tgt := 27) dX4_removeMember_18 (by decide) (by decide) ?_
  refine e_aload_0 dX4_removeMember_27 rfl ?_
  refine e_iload_1 dX4_removeMember_28 rfl ?_
  refine e_iload_2 dX4_removeMember_29 rfl ?_
  refine e_callV dX4_removeMember_30 rfl csX4_97 (m_memberAt_no (M := (cdM M 0)) hf hmr hO0 ho (by omega) hnm) rfl rfl ps_64 (by decide) (by decide) ⟨Nat.le_of_ble_eq_true rfl, Nat.le_of_ble_eq_true rfl⟩ ⟨Nat.le_of_ble_eq_true rfl, Nat.le_of_ble_eq_true rfl⟩ rfl rfl (Nat.le_of_ble_eq_true rfl) ?_
  refine e_istore_3 dX4_removeMember_33 rfl (Nat.le_of_ble_eq_true rfl) rfl ?_
  refine e_iload_3 dX4_removeMember_34 rfl ?_
  refine e_iconst (v := -1) dX4_removeMember_35 rfl ic_m1 ?_
  refine e_ic_ne_f dX4_removeMember_36 rfl ⟨45, by decide⟩ rfl ?_
  refine e_aload_0 dX4_removeMember_39 rfl ?_
  refine e_iconst (v := nI 2) dX4_removeMember_40 rfl ic_2 ?_
  refine e_callV dX4_removeMember_41 rfl csX4_90 (m_fails (M := (cdM M 0)) (k := 2) hf hmr) rfl rfl ps_64 (by decide) (by decide) ⟨Nat.le_of_ble_eq_true rfl, Nat.le_of_ble_eq_true rfl⟩ ⟨Nat.le_of_ble_eq_true rfl, Nat.le_of_ble_eq_true rfl⟩ rfl rfl (Nat.le_of_ble_eq_true rfl) ?_
  exact e_iret dX4_removeMember_44 rfl rfl (Nat.le_of_ble_eq_true rfl) (Nat.le_of_ble_eq_true rfl) rfl rfl
theorem m_values_ok {l : Launch} (hf : l.stackTraces = false) {M : pmM} {od : Nat → Nat} (hmr : M.2.1 = mrC od) {oc : Nat} {rg mc : Nat → Nat} {lo hi mb : Nat → Nat → Nat} (hO : MO M oc rg mc lo hi mb) {o : Nat} (ho : o < oc) : Sp l kX4_values 86 2 0 0 [.ref 64, .int (nI o)] M (.inl (some (.int (nI (cntN (hasb ((spS oc rg mc lo hi mb (-1) (nI 0) (M.1 81)) o)) 32))))) (setM (cdM M 0) (spS oc rg mc lo hi mb (-1) (nI 0) (M.1 81))) := by
  refine sp_of hf (by decide +kernel) (Nat.le_of_ble_eq_true rfl) (by intro v hv; simp at hv; rcases hv with rfl | rfl <;> rfl) rfl ?_
  have hO0 : MO (cdM M 0) oc rg mc lo hi mb := hO.congr rfl (fun a k h1 h2 => cdM_no (by omega))
  obtain ⟨h1, h2, h3, h4, h5, h6⟩ := hO
  have h0r : ∀ o, o < oc → (cdM M 0).1 65 o = nI (rg o) := fun o h => (h3 o h).1
  have h0m : ∀ o, o < oc → (cdM M 0).1 68 o = nI (mc o) := fun o h => (h5 o h).1
  refine e_aload_0 dX4_values_0 rfl ?_
  refine e_iconst (v := nI 0) dX4_values_1 rfl ic_0 ?_
  refine e_putI dX4_values_2 rfl lkX4_68 rfl rfl rfl ps_64 (by decide) (by decide) ?_
  refine e_aload_0 dX4_values_5 rfl ?_
  refine e_iload_1 dX4_values_6 rfl ?_
  refine e_callV dX4_values_7 rfl csX4_93 (m_isObject_y (M := (cdM M 0)) hf hO0.2.1 hO0.1 ho) rfl rfl ps_64 (by decide) (by decide) ⟨Nat.le_of_ble_eq_true rfl, Nat.le_of_ble_eq_true rfl⟩ ⟨Nat.le_of_ble_eq_true rfl, Nat.le_of_ble_eq_true rfl⟩ rfl rfl (Nat.le_of_ble_eq_true rfl) ?_
  refine e_if_ne_t (tgt := 19) dX4_values_10 (by decide) (by decide) ?_
  refine e_aload_0 dX4_values_19 rfl ?_
  refine e_iconst (v := -1) dX4_values_20 rfl ic_m1 ?_
  refine e_iconst (v := nI 0) dX4_values_21 rfl ic_0 ?_
  refine e_callV dX4_values_22 rfl csX4_103 (m_spreads (M := (cdM M 0)) (ob := -1) (more := nI 0) hf hmr hO0) rfl rfl ps_64 (by decide) (by decide) ⟨Nat.le_of_ble_eq_true rfl, Nat.le_of_ble_eq_true rfl⟩ ⟨Nat.le_of_ble_eq_true rfl, Nat.le_of_ble_eq_true rfl⟩ rfl rfl (Nat.le_of_ble_eq_true rfl) ?_
  change Ev _ _ _ _ _ _ _ _ _ _ (setM (cdM M 0) (spS oc rg mc lo hi mb (-1) (nI 0) (M.1 81)))
  generalize (spS oc rg mc lo hi mb (-1) (nI 0) (M.1 81)) = S
  refine e_aload_0 dX4_values_25 rfl ?_
  refine e_getR dX4_values_26 rfl lkX4_59 rfl ps_64 (by decide) (by decide) (mr_of hmr rfl) ?_
  refine e_iload_1 dX4_values_29 rfl ?_
  refine e_iald dX4_values_30 rfl ps_81 (by decide) rfl (by omega) ?_
  refine e_callS dX4_values_31 rfl csX4_107 (m_size hf) rfl rfl ⟨Nat.le_of_ble_eq_true rfl, Nat.le_of_ble_eq_true rfl⟩ ⟨Nat.le_of_ble_eq_true rfl, Nat.le_of_ble_eq_true rfl⟩ rfl rfl (Nat.le_of_ble_eq_true rfl) ?_
  exact e_iret dX4_values_34 rfl rfl (Nat.le_of_ble_eq_true rfl) (Nat.le_of_ble_eq_true rfl) rfl rfl
theorem m_values_no1 {l : Launch} (hf : l.stackTraces = false) {M : pmM} {od : Nat → Nat} (hmr : M.2.1 = mrC od) {oc : Nat} {rg mc : Nat → Nat} {lo hi mb : Nat → Nat → Nat} (hO : MO M oc rg mc lo hi mb) {x : Int32} (hx : ¬ vp_in x oc) : Sp l kX4_values 86 2 0 0 [.ref 64, .int x] M (.inl (some (.int (nI 0)))) (cdM (cdM M 0) 1) := by
  refine sp_of hf (by decide +kernel) (Nat.le_of_ble_eq_true rfl) (by intro v hv; simp at hv; rcases hv with rfl | rfl <;> rfl) rfl ?_
  have hO0 : MO (cdM M 0) oc rg mc lo hi mb := hO.congr rfl (fun a k h1 h2 => cdM_no (by omega))
  obtain ⟨h1, h2, h3, h4, h5, h6⟩ := hO
  have h0r : ∀ o, o < oc → (cdM M 0).1 65 o = nI (rg o) := fun o h => (h3 o h).1
  have h0m : ∀ o, o < oc → (cdM M 0).1 68 o = nI (mc o) := fun o h => (h5 o h).1
  refine e_aload_0 dX4_values_0 rfl ?_
  refine e_iconst (v := nI 0) dX4_values_1 rfl ic_0 ?_
  refine e_putI dX4_values_2 rfl lkX4_68 rfl rfl rfl ps_64 (by decide) (by decide) ?_
  refine e_aload_0 dX4_values_5 rfl ?_
  refine e_iload_1 dX4_values_6 rfl ?_
  refine e_callV dX4_values_7 rfl csX4_93 (m_isObject_n (M := (cdM M 0)) hf hO0.2.1 hO0.1 hx) rfl rfl ps_64 (by decide) (by decide) ⟨Nat.le_of_ble_eq_true rfl, Nat.le_of_ble_eq_true rfl⟩ ⟨Nat.le_of_ble_eq_true rfl, Nat.le_of_ble_eq_true rfl⟩ rfl rfl (Nat.le_of_ble_eq_true rfl) ?_
  refine e_if_ne_f dX4_values_10 rfl ⟨19, by decide⟩ (by decide) ?_
  refine e_aload_0 dX4_values_13 rfl ?_
  refine e_iconst (v := nI 1) dX4_values_14 rfl ic_1 ?_
  refine e_callV dX4_values_15 rfl csX4_90 (m_fails (M := (cdM M 0)) (k := 1) hf hmr) rfl rfl ps_64 (by decide) (by decide) ⟨Nat.le_of_ble_eq_true rfl, Nat.le_of_ble_eq_true rfl⟩ ⟨Nat.le_of_ble_eq_true rfl, Nat.le_of_ble_eq_true rfl⟩ rfl rfl (Nat.le_of_ble_eq_true rfl) ?_
  exact e_iret dX4_values_18 rfl rfl (Nat.le_of_ble_eq_true rfl) (Nat.le_of_ble_eq_true rfl) rfl rfl
theorem m_hasValue_ok {l : Launch} (hf : l.stackTraces = false) {M : pmM} {od : Nat → Nat} (hmr : M.2.1 = mrC od) {oc : Nat} {rg mc : Nat → Nat} {lo hi mb : Nat → Nat → Nat} (hO : MO M oc rg mc lo hi mb) {o : Nat} (ho : o < oc) {v : Nat} (hv : v < 32) : Sp l kX4_hasValue 86 2 0 0 [.ref 64, .int (nI o), .int (nI v)] M (.inl (some (.int (bI (hasb ((spS oc rg mc lo hi mb (-1) (nI 0) (M.1 81)) o) v))))) (setM (cdM M 0) (spS oc rg mc lo hi mb (-1) (nI 0) (M.1 81))) := by
  refine sp_of hf (by decide +kernel) (Nat.le_of_ble_eq_true rfl) (by intro v hv; simp at hv; rcases hv with rfl | rfl | rfl <;> rfl) rfl ?_
  have hO0 : MO (cdM M 0) oc rg mc lo hi mb := hO.congr rfl (fun a k h1 h2 => cdM_no (by omega))
  have ho8 := hO.1
  refine e_aload_0 dX4_hasValue_0 rfl ?_
  refine e_aload_0 dX4_hasValue_1 rfl ?_
  refine e_iload_1 dX4_hasValue_2 rfl ?_
  refine e_callV dX4_hasValue_3 rfl csX4_93 (m_isObject_y (M := M) hf hO.2.1 hO.1 ho) rfl rfl ps_64 (by decide) (by decide) ⟨Nat.le_of_ble_eq_true rfl, Nat.le_of_ble_eq_true rfl⟩ ⟨Nat.le_of_ble_eq_true rfl, Nat.le_of_ble_eq_true rfl⟩ rfl rfl (Nat.le_of_ble_eq_true rfl) ?_
  refine e_if_ne_t (tgt := 13) dX4_hasValue_6 (by decide) (by decide) ?_
  refine e_iload_2 dX4_hasValue_13 rfl ?_
  refine e_iconst (v := nI 0) dX4_hasValue_14 rfl ic_0 ?_
  refine e_bipush (v := nI 31) dX4_hasValue_15 rfl bc_31 ?_
  refine e_callS dX4_hasValue_17 rfl csX4_75 (m_in_t hf (nI_le (Nat.zero_le v) (by omega)) (nI_le (show v ≤ 31 by omega) (by omega))) rfl rfl ⟨Nat.le_of_ble_eq_true rfl, Nat.le_of_ble_eq_true rfl⟩ ⟨Nat.le_of_ble_eq_true rfl, Nat.le_of_ble_eq_true rfl⟩ rfl rfl (Nat.le_of_ble_eq_true rfl) ?_
  refine e_if_ne_t (tgt := 27) dX4_hasValue_20 (by decide) (by decide) ?_
  refine e_iconst (v := nI 0) dX4_hasValue_27 rfl ic_0 ?_
  refine e_putI dX4_hasValue_28 rfl lkX4_68 rfl rfl rfl ps_64 (by decide) (by decide) ?_
  refine e_aload_0 dX4_hasValue_31 rfl ?_
  refine e_getI dX4_hasValue_32 rfl lkX4_68 rfl ps_64 (by decide) (by decide) ?_
  refine e_topi (nI 0) rfl ?_
  refine e_if_le_t (tgt := 40) dX4_hasValue_35 (by decide) (by decide) ?_
  refine e_aload_0 dX4_hasValue_40 rfl ?_
  refine e_iconst (v := -1) dX4_hasValue_41 rfl ic_m1 ?_
  refine e_iconst (v := nI 0) dX4_hasValue_42 rfl ic_0 ?_
  refine e_callV dX4_hasValue_43 rfl csX4_103 (m_spreads (M := (cdM M 0)) (ob := -1) (more := nI 0) hf hmr hO0) rfl rfl ps_64 (by decide) (by decide) ⟨Nat.le_of_ble_eq_true rfl, Nat.le_of_ble_eq_true rfl⟩ ⟨Nat.le_of_ble_eq_true rfl, Nat.le_of_ble_eq_true rfl⟩ rfl rfl (Nat.le_of_ble_eq_true rfl) ?_
  change Ev _ _ _ _ _ _ _ _ _ _ (setM (cdM M 0) (spS oc rg mc lo hi mb (-1) (nI 0) (M.1 81)))
  generalize (spS oc rg mc lo hi mb (-1) (nI 0) (M.1 81)) = S
  refine e_aload_0 dX4_hasValue_46 rfl ?_
  refine e_getR dX4_hasValue_47 rfl lkX4_59 rfl ps_64 (by decide) (by decide) (mr_of hmr rfl) ?_
  refine e_iload_1 dX4_hasValue_50 rfl ?_
  refine e_iald dX4_hasValue_51 rfl ps_81 (by decide) rfl (by omega) ?_
  refine e_iload_2 dX4_hasValue_52 rfl ?_
  refine e_ishr dX4_hasValue_53 rfl ?_
  refine e_iconst (v := nI 1) dX4_hasValue_54 rfl ic_1 ?_
  refine e_iand dX4_hasValue_55 rfl ?_
  refine e_iconst (v := nI 1) dX4_hasValue_56 rfl ic_1 ?_
  cases hz : hasb (S o) v with
  | true =>
    refine e_ic_ne_f dX4_hasValue_57 rfl ⟨64, by decide⟩ (shr_1 _ hv hz) ?_
    refine e_iconst (v := nI 1) dX4_hasValue_60 rfl ic_1 ?_
    refine e_goto (tgt := 65) dX4_hasValue_61 (by decide) ?_
    exact e_iret dX4_hasValue_65 rfl rfl (Nat.le_of_ble_eq_true rfl) (Nat.le_of_ble_eq_true rfl) rfl rfl
  | false =>
    refine e_ic_ne_t (tgt := 64) dX4_hasValue_57 (by decide) (shr_n1 _ hv hz) ?_
    refine e_iconst (v := nI 0) dX4_hasValue_64 rfl ic_0 ?_
    exact e_iret dX4_hasValue_65 rfl rfl (Nat.le_of_ble_eq_true rfl) (Nat.le_of_ble_eq_true rfl) rfl rfl
theorem m_hasValue_no1 {l : Launch} (hf : l.stackTraces = false) {M : pmM} {od : Nat → Nat} (hmr : M.2.1 = mrC od) {oc : Nat} {rg mc : Nat → Nat} {lo hi mb : Nat → Nat → Nat} (hO : MO M oc rg mc lo hi mb) {x : Int32} (hx : ¬ vp_in x oc) {y : Int32} : Sp l kX4_hasValue 86 2 0 0 [.ref 64, .int x, .int y] M (.inl (some (.int (nI 0)))) (cdM M 1) := by
  refine sp_of hf (by decide +kernel) (Nat.le_of_ble_eq_true rfl) (by intro v hv; simp at hv; rcases hv with rfl | rfl | rfl <;> rfl) rfl ?_
  refine e_aload_0 dX4_hasValue_0 rfl ?_
  refine e_aload_0 dX4_hasValue_1 rfl ?_
  refine e_iload_1 dX4_hasValue_2 rfl ?_
  refine e_callV dX4_hasValue_3 rfl csX4_93 (m_isObject_n (M := M) hf hO.2.1 hO.1 hx) rfl rfl ps_64 (by decide) (by decide) ⟨Nat.le_of_ble_eq_true rfl, Nat.le_of_ble_eq_true rfl⟩ ⟨Nat.le_of_ble_eq_true rfl, Nat.le_of_ble_eq_true rfl⟩ rfl rfl (Nat.le_of_ble_eq_true rfl) ?_
  refine e_if_ne_f dX4_hasValue_6 rfl ⟨13, by decide⟩ (by decide) ?_
  refine e_iconst (v := nI 1) dX4_hasValue_9 rfl ic_1 ?_
  refine e_goto (tgt := 28) dX4_hasValue_10 (by decide) ?_
  refine e_putI dX4_hasValue_28 rfl lkX4_68 rfl rfl rfl ps_64 (by decide) (by decide) ?_
  refine e_aload_0 dX4_hasValue_31 rfl ?_
  refine e_getI dX4_hasValue_32 rfl lkX4_68 rfl ps_64 (by decide) (by decide) ?_
  refine e_topi (nI 1) rfl ?_
  refine e_if_le_f dX4_hasValue_35 rfl ⟨40, by decide⟩ (by decide) ?_
  refine e_iconst (v := nI 0) dX4_hasValue_38 rfl ic_0 ?_
  exact e_iret dX4_hasValue_39 rfl rfl (Nat.le_of_ble_eq_true rfl) (Nat.le_of_ble_eq_true rfl) rfl rfl
theorem m_hasValue_no2 {l : Launch} (hf : l.stackTraces = false) {M : pmM} {od : Nat → Nat} (hmr : M.2.1 = mrC od) {oc : Nat} {rg mc : Nat → Nat} {lo hi mb : Nat → Nat → Nat} (hO : MO M oc rg mc lo hi mb) {o : Nat} (ho : o < oc) {y : Int32} (hy : ¬ vp_in y 32) : Sp l kX4_hasValue 86 2 0 0 [.ref 64, .int (nI o), .int y] M (.inl (some (.int (nI 0)))) (cdM M 2) := by
  refine sp_of hf (by decide +kernel) (Nat.le_of_ble_eq_true rfl) (by intro v hv; simp at hv; rcases hv with rfl | rfl | rfl <;> rfl) rfl ?_
  have ho8 := hO.1
  refine e_aload_0 dX4_hasValue_0 rfl ?_
  refine e_aload_0 dX4_hasValue_1 rfl ?_
  refine e_iload_1 dX4_hasValue_2 rfl ?_
  refine e_callV dX4_hasValue_3 rfl csX4_93 (m_isObject_y (M := M) hf hO.2.1 hO.1 ho) rfl rfl ps_64 (by decide) (by decide) ⟨Nat.le_of_ble_eq_true rfl, Nat.le_of_ble_eq_true rfl⟩ ⟨Nat.le_of_ble_eq_true rfl, Nat.le_of_ble_eq_true rfl⟩ rfl rfl (Nat.le_of_ble_eq_true rfl) ?_
  refine e_if_ne_t (tgt := 13) dX4_hasValue_6 (by decide) (by decide) ?_
  refine e_iload_2 dX4_hasValue_13 rfl ?_
  refine e_iconst (v := nI 0) dX4_hasValue_14 rfl ic_0 ?_
  refine e_bipush (v := nI 31) dX4_hasValue_15 rfl bc_31 ?_
  refine e_callS dX4_hasValue_17 rfl csX4_75 (m_in_f hf (in32_n hy)) rfl rfl ⟨Nat.le_of_ble_eq_true rfl, Nat.le_of_ble_eq_true rfl⟩ ⟨Nat.le_of_ble_eq_true rfl, Nat.le_of_ble_eq_true rfl⟩ rfl rfl (Nat.le_of_ble_eq_true rfl) ?_
  refine e_if_ne_f dX4_hasValue_20 rfl ⟨27, by decide⟩ (by decide) ?_
  refine e_iconst (v := nI 2) dX4_hasValue_23 rfl ic_2 ?_
  refine e_goto (tgt := 28) dX4_hasValue_24 (by decide) ?_
  refine e_putI dX4_hasValue_28 rfl lkX4_68 rfl rfl rfl ps_64 (by decide) (by decide) ?_
  refine e_aload_0 dX4_hasValue_31 rfl ?_
  refine e_getI dX4_hasValue_32 rfl lkX4_68 rfl ps_64 (by decide) (by decide) ?_
  refine e_topi (nI 2) rfl ?_
  refine e_if_le_f dX4_hasValue_35 rfl ⟨40, by decide⟩ (by decide) ?_
  refine e_iconst (v := nI 0) dX4_hasValue_38 rfl ic_0 ?_
  exact e_iret dX4_hasValue_39 rfl rfl (Nat.le_of_ble_eq_true rfl) (Nat.le_of_ble_eq_true rfl) rfl rfl
theorem m_users_ok {l : Launch} (hf : l.stackTraces = false) {M : pmM} {od : Nat → Nat} (hmr : M.2.1 = mrC od) {oc : Nat} {rg mc : Nat → Nat} {lo hi mb : Nat → Nat → Nat} (hO : MO M oc rg mc lo hi mb) {rc : Nat} (hmc : M.1 64 8 = nI rc) (h8 : rc ≤ 8) {mo : Nat → Nat} (hmo : ∀ p, p < rc → M.1 70 p = nI (mo p) ∧ mo p < 8) (hfm : ∀ p f, p < rc → f < 3 → fOk (M.1 74 (3 * mo p + f))) {o : Nat} (ho : o < oc) : Sp l kX4_users 86 2 0 0 [.ref 64, .int (nI o)] M (.inl (some (.int (nI (cntN (muB M mo (dpS oc mc mb o)) rc))))) (cdM M 0) := by
  refine sp_of hf (by decide +kernel) (Nat.le_of_ble_eq_true rfl) (by intro v hv; simp at hv; rcases hv with rfl | rfl <;> rfl) rfl ?_
  have hO0 : MO (cdM M 0) oc rg mc lo hi mb := hO.congr rfl (fun a k h1 h2 => cdM_no (by omega))
  obtain ⟨h1, h2, h3, h4, h5, h6⟩ := hO
  have h0r : ∀ o, o < oc → (cdM M 0).1 65 o = nI (rg o) := fun o h => (h3 o h).1
  have h0m : ∀ o, o < oc → (cdM M 0).1 68 o = nI (mc o) := fun o h => (h5 o h).1
  refine e_aload_0 dX4_users_0 rfl ?_
  refine e_iconst (v := nI 0) dX4_users_1 rfl ic_0 ?_
  refine e_putI dX4_users_2 rfl lkX4_68 rfl rfl rfl ps_64 (by decide) (by decide) ?_
  refine e_aload_0 dX4_users_5 rfl ?_
  refine e_iload_1 dX4_users_6 rfl ?_
  refine e_callV dX4_users_7 rfl csX4_93 (m_isObject_y (M := (cdM M 0)) hf hO0.2.1 hO0.1 ho) rfl rfl ps_64 (by decide) (by decide) ⟨Nat.le_of_ble_eq_true rfl, Nat.le_of_ble_eq_true rfl⟩ ⟨Nat.le_of_ble_eq_true rfl, Nat.le_of_ble_eq_true rfl⟩ rfl rfl (Nat.le_of_ble_eq_true rfl) ?_
  refine e_if_ne_t (tgt := 19) dX4_users_10 (by decide) (by decide) ?_
  refine e_aload_0 dX4_users_19 rfl ?_
  refine e_iload_1 dX4_users_20 rfl ?_
  refine e_callV dX4_users_21 rfl csX4_100 (m_dependents (M := (cdM M 0)) hf hmr hO0 ho) rfl rfl ps_64 (by decide) (by decide) ⟨Nat.le_of_ble_eq_true rfl, Nat.le_of_ble_eq_true rfl⟩ ⟨Nat.le_of_ble_eq_true rfl, Nat.le_of_ble_eq_true rfl⟩ rfl rfl (Nat.le_of_ble_eq_true rfl) ?_
  refine e_istore_2 dX4_users_24 rfl (Nat.le_of_ble_eq_true rfl) rfl ?_
  refine e_iconst (v := nI 0) dX4_users_25 rfl ic_0 ?_
  refine e_istore_3 dX4_users_26 rfl (Nat.le_of_ble_eq_true rfl) rfl ?_
  refine e_iconst (v := nI 0) dX4_users_27 rfl ic_0 ?_
  refine e_istore_4 dX4_users_28 rfl (Nat.le_of_ble_eq_true rfl) rfl ?_
  generalize (dpS oc mc mb o) = D
  refine loop_up (P := fun p => Ev l kX4_users (gM 86 0 0 (.inl (some (.int (nI (cntN (muB M mo D) rc))))) (cdM M 0)) (rmd 2 0 0) 86 0 0 30 [some (.ref 64), some (.int (nI o)), some (.int D), some (.int (nI (cntN (muB M mo D) p))), some (.int (nI p)), none, none, none] [] (cdM M 0)) ?_ (fun p hp ih => ?_) 0 (Nat.zero_le rc)
  · refine e_iload_4 dX4_users_30 rfl ?_
    refine e_aload_0 dX4_users_32 rfl ?_
    refine e_getI dX4_users_33 rfl lkX4_79 rfl ps_64 (by decide) (by decide) ?_
    refine e_topi (nI rc) hmc ?_
    refine e_nc_ge_t (tgt := 123) dX4_users_36 (by decide) (by omega) (by omega) (Nat.le_refl _) ?_
    refine e_iload_3 dX4_users_123 rfl ?_
    exact e_iret dX4_users_124 rfl rfl (Nat.le_of_ble_eq_true rfl) (Nat.le_of_ble_eq_true rfl) rfl rfl
  · have hs := (hmo p hp).2
    refine e_iload_4 dX4_users_30 rfl ?_
    refine e_aload_0 dX4_users_32 rfl ?_
    refine e_getI dX4_users_33 rfl lkX4_79 rfl ps_64 (by decide) (by decide) ?_
    refine e_topi (nI rc) hmc ?_
    refine e_nc_ge_f dX4_users_36 rfl ⟨123, by decide⟩ (by omega) (by omega) hp ?_
    refine e_iconst (v := nI 0) dX4_users_39 rfl ic_0 ?_
    refine e_istore_5 dX4_users_40 rfl (Nat.le_of_ble_eq_true rfl) rfl ?_
    refine e_iconst (v := nI 0) dX4_users_42 rfl ic_0 ?_
    refine e_istore_6 dX4_users_43 rfl (Nat.le_of_ble_eq_true rfl) rfl ?_
    refine loop_up (P := fun f => Ev l kX4_users (gM 86 0 0 (.inl (some (.int (nI (cntN (muB M mo D) rc))))) (cdM M 0)) (rmd 2 0 0) 86 0 0 45 [some (.ref 64), some (.int (nI o)), some (.int D), some (.int (nI (cntN (muB M mo D) p))), some (.int (nI p)), some (.int (bI (anyB (muF M mo D p) f))), some (.int (nI f)), none] [] (cdM M 0)) ?_ (fun f hf3 ih2 => ?_) 0 (Nat.zero_le 3)
    · refine e_iload_6 dX4_users_45 rfl ?_
      refine e_iconst (v := nI 3) dX4_users_47 rfl ic_3 ?_
      refine e_nc_ge_t (tgt := 104) dX4_users_48 (by decide) (by omega) (by omega) (Nat.le_refl _) ?_
      refine e_iload_3 dX4_users_104 rfl ?_
      refine e_iload_5 dX4_users_105 rfl ?_
      cases hz : anyB (muF M mo D p) 3 with
      | true =>
        refine e_if_eq_f dX4_users_107 rfl ⟨114, by decide⟩ (by decide) ?_
        refine e_iconst (v := nI 1) dX4_users_110 rfl ic_1 ?_
        refine e_goto (tgt := 115) dX4_users_111 (by decide) ?_
        refine e_iadd dX4_users_115 rfl ?_
        refine e_topi (nI (cntN (muB M mo D) p + 1)) (nI_add _ _) ?_
        refine e_istore_3 dX4_users_116 rfl (Nat.le_of_ble_eq_true rfl) rfl ?_
        refine e_iinc_4 (v := nI (p + 1)) dX4_users_117 rfl (Nat.le_of_ble_eq_true rfl) rfl (nI_1 p) ?_
        refine e_goto (tgt := 30) dX4_users_120 (by decide) ?_
        refine e_weak (weak_c (weak_c (weak_c (weak_c (weak_c (weak_n (weak_n weak_nil))))))) ?_
        refine e_loc ?_ ih
        rw [cntN, if_pos (show muB M mo D p = true from hz)]
      | false =>
        refine e_if_eq_t (tgt := 114) dX4_users_107 (by decide) rfl ?_
        refine e_iconst (v := nI 0) dX4_users_114 rfl ic_0 ?_
        refine e_iadd dX4_users_115 rfl ?_
        refine e_topi (nI (cntN (muB M mo D) p + 0)) (nI_add _ _) ?_
        refine e_istore_3 dX4_users_116 rfl (Nat.le_of_ble_eq_true rfl) rfl ?_
        refine e_iinc_4 (v := nI (p + 1)) dX4_users_117 rfl (Nat.le_of_ble_eq_true rfl) rfl (nI_1 p) ?_
        refine e_goto (tgt := 30) dX4_users_120 (by decide) ?_
        refine e_weak (weak_c (weak_c (weak_c (weak_c (weak_c (weak_n (weak_n weak_nil))))))) ?_
        refine e_loc ?_ ih
        rw [cntN, if_neg (show ¬ muB M mo D p = true by unfold muB; rw [hz]; decide)]; rfl
    · refine e_iload_6 dX4_users_45 rfl ?_
      refine e_iconst (v := nI 3) dX4_users_47 rfl ic_3 ?_
      refine e_nc_ge_f dX4_users_48 rfl ⟨104, by decide⟩ (by omega) (by omega) hf3 ?_
      refine e_aload_0 dX4_users_51 rfl ?_
      refine e_getR dX4_users_52 rfl lkX4_38 rfl ps_64 (by decide) (by decide) (mr_of hmr rfl) ?_
      refine e_iconst (v := nI 3) dX4_users_55 rfl ic_3 ?_
      refine e_aload_0 dX4_users_56 rfl ?_
      refine e_getR dX4_users_57 rfl lkX4_25 rfl ps_64 (by decide) (by decide) (mr_of hmr rfl) ?_
      refine e_iload_4 dX4_users_60 rfl ?_
      refine e_iald dX4_users_62 rfl ps_70 (by decide) rfl (by omega) ?_
      refine e_topi (nI (mo p)) (hmo p hp).1 ?_
      refine e_imul dX4_users_63 rfl ?_
      refine e_topi (nI (3 * (mo p))) (pk_mul _ _) ?_
      refine e_iload_6 dX4_users_64 rfl ?_
      refine e_iadd dX4_users_66 rfl ?_
      refine e_topi (nI (3 * (mo p) + f)) (nI_add _ _) ?_
      refine e_iald dX4_users_67 rfl ps_74 (by decide) rfl (by omega) ?_
      refine e_istore_7 dX4_users_68 rfl (Nat.le_of_ble_eq_true rfl) rfl ?_
      rw [anyB] at ih2
      cases hz : anyB (muF M mo D p) f with
      | true =>
        rw [hz, Bool.true_or] at ih2
        refine e_iload_5 dX4_users_70 rfl ?_
        refine e_if_ne_t (tgt := 91) dX4_users_72 (by decide) (by decide) ?_
        refine e_iconst (v := nI 1) dX4_users_91 rfl ic_1 ?_
        refine e_goto (tgt := 96) dX4_users_92 (by decide) ?_
        refine e_istore_5 dX4_users_96 rfl (Nat.le_of_ble_eq_true rfl) rfl ?_
        refine e_iinc_6 (v := nI (f + 1)) dX4_users_98 rfl (Nat.le_of_ble_eq_true rfl) rfl (nI_1 f) ?_
        refine e_goto (tgt := 45) dX4_users_101 (by decide) ?_
        refine e_weak (weak_c (weak_c (weak_c (weak_c (weak_c (weak_c (weak_c (weak_n weak_nil)))))))) ?_
        exact ih2
      | false =>
        rw [hz, Bool.false_or] at ih2
        rcases hfm p f hp hf3 with hxf | ⟨b, hb, hxf⟩
        · rw [show muF M mo D p f = false by unfold muF; rw [decide_eq_true hxf]; rfl] at ih2
          refine e_iload_5 dX4_users_70 rfl ?_
          refine e_if_ne_f dX4_users_72 rfl ⟨91, by decide⟩ rfl ?_
          refine e_iload_7 dX4_users_75 rfl ?_
          refine e_iconst (v := -1) dX4_users_77 rfl ic_m1 ?_
          refine e_ic_eq_t (tgt := 95) dX4_users_78 (by decide) hxf ?_
          refine e_iconst (v := nI 0) dX4_users_95 rfl ic_0 ?_
          refine e_istore_5 dX4_users_96 rfl (Nat.le_of_ble_eq_true rfl) rfl ?_
          refine e_iinc_6 (v := nI (f + 1)) dX4_users_98 rfl (Nat.le_of_ble_eq_true rfl) rfl (nI_1 f) ?_
          refine e_goto (tgt := 45) dX4_users_101 (by decide) ?_
          refine e_weak (weak_c (weak_c (weak_c (weak_c (weak_c (weak_c (weak_c (weak_n weak_nil)))))))) ?_
          exact ih2
        · rw [show muF M mo D p f = hasb D b by unfold muF; rw [hxf, decide_eq_false (nI_m1 hb), ixN_nI hb]; rfl] at ih2
          refine e_iload_5 dX4_users_70 rfl ?_
          refine e_if_ne_f dX4_users_72 rfl ⟨91, by decide⟩ rfl ?_
          refine e_iload_7 dX4_users_75 rfl ?_
          refine e_topi (nI b) hxf ?_
          refine e_iconst (v := -1) dX4_users_77 rfl ic_m1 ?_
          refine e_ic_eq_f dX4_users_78 rfl ⟨95, by decide⟩ (nI_m1 hb) ?_
          refine e_iload_2 dX4_users_81 rfl ?_
          refine e_iload_7 dX4_users_82 rfl ?_
          refine e_topi (nI b) hxf ?_
          refine e_ishr dX4_users_84 rfl ?_
          refine e_iconst (v := nI 1) dX4_users_85 rfl ic_1 ?_
          refine e_iand dX4_users_86 rfl ?_
          refine e_iconst (v := nI 1) dX4_users_87 rfl ic_1 ?_
          cases hy : hasb D b with
          | true =>
            rw [hy] at ih2
            refine e_ic_ne_f dX4_users_88 rfl ⟨95, by decide⟩ (shr_1 _ (by omega) hy) ?_
            refine e_iconst (v := nI 1) dX4_users_91 rfl ic_1 ?_
            refine e_goto (tgt := 96) dX4_users_92 (by decide) ?_
            refine e_istore_5 dX4_users_96 rfl (Nat.le_of_ble_eq_true rfl) rfl ?_
            refine e_iinc_6 (v := nI (f + 1)) dX4_users_98 rfl (Nat.le_of_ble_eq_true rfl) rfl (nI_1 f) ?_
            refine e_goto (tgt := 45) dX4_users_101 (by decide) ?_
            refine e_weak (weak_c (weak_c (weak_c (weak_c (weak_c (weak_c (weak_c (weak_n weak_nil)))))))) ?_
            exact ih2
          | false =>
            rw [hy] at ih2
            refine e_ic_ne_t (tgt := 95) dX4_users_88 (by decide) (shr_n1 _ (by omega) hy) ?_
            refine e_iconst (v := nI 0) dX4_users_95 rfl ic_0 ?_
            refine e_istore_5 dX4_users_96 rfl (Nat.le_of_ble_eq_true rfl) rfl ?_
            refine e_iinc_6 (v := nI (f + 1)) dX4_users_98 rfl (Nat.le_of_ble_eq_true rfl) rfl (nI_1 f) ?_
            refine e_goto (tgt := 45) dX4_users_101 (by decide) ?_
            refine e_weak (weak_c (weak_c (weak_c (weak_c (weak_c (weak_c (weak_c (weak_n weak_nil)))))))) ?_
            exact ih2
theorem m_users_no1 {l : Launch} (hf : l.stackTraces = false) {M : pmM} {od : Nat → Nat} (hmr : M.2.1 = mrC od) {oc : Nat} {rg mc : Nat → Nat} {lo hi mb : Nat → Nat → Nat} (hO : MO M oc rg mc lo hi mb) {x : Int32} (hx : ¬ vp_in x oc) : Sp l kX4_users 86 2 0 0 [.ref 64, .int x] M (.inl (some (.int (nI 0)))) (cdM (cdM M 0) 1) := by
  refine sp_of hf (by decide +kernel) (Nat.le_of_ble_eq_true rfl) (by intro v hv; simp at hv; rcases hv with rfl | rfl <;> rfl) rfl ?_
  have hO0 : MO (cdM M 0) oc rg mc lo hi mb := hO.congr rfl (fun a k h1 h2 => cdM_no (by omega))
  obtain ⟨h1, h2, h3, h4, h5, h6⟩ := hO
  have h0r : ∀ o, o < oc → (cdM M 0).1 65 o = nI (rg o) := fun o h => (h3 o h).1
  have h0m : ∀ o, o < oc → (cdM M 0).1 68 o = nI (mc o) := fun o h => (h5 o h).1
  refine e_aload_0 dX4_users_0 rfl ?_
  refine e_iconst (v := nI 0) dX4_users_1 rfl ic_0 ?_
  refine e_putI dX4_users_2 rfl lkX4_68 rfl rfl rfl ps_64 (by decide) (by decide) ?_
  refine e_aload_0 dX4_users_5 rfl ?_
  refine e_iload_1 dX4_users_6 rfl ?_
  refine e_callV dX4_users_7 rfl csX4_93 (m_isObject_n (M := (cdM M 0)) hf hO0.2.1 hO0.1 hx) rfl rfl ps_64 (by decide) (by decide) ⟨Nat.le_of_ble_eq_true rfl, Nat.le_of_ble_eq_true rfl⟩ ⟨Nat.le_of_ble_eq_true rfl, Nat.le_of_ble_eq_true rfl⟩ rfl rfl (Nat.le_of_ble_eq_true rfl) ?_
  refine e_if_ne_f dX4_users_10 rfl ⟨19, by decide⟩ (by decide) ?_
  refine e_aload_0 dX4_users_13 rfl ?_
  refine e_iconst (v := nI 1) dX4_users_14 rfl ic_1 ?_
  refine e_callV dX4_users_15 rfl csX4_90 (m_fails (M := (cdM M 0)) (k := 1) hf hmr) rfl rfl ps_64 (by decide) (by decide) ⟨Nat.le_of_ble_eq_true rfl, Nat.le_of_ble_eq_true rfl⟩ ⟨Nat.le_of_ble_eq_true rfl, Nat.le_of_ble_eq_true rfl⟩ rfl rfl (Nat.le_of_ble_eq_true rfl) ?_
  exact e_iret dX4_users_18 rfl rfl (Nat.le_of_ble_eq_true rfl) (Nat.le_of_ble_eq_true rfl) rfl rfl
