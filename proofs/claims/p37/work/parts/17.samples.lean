/-! ===== FilterRules: the samples ===== -/
def itM (step : Nat → pmM → pmM) : Nat → pmM → pmM
  | 0, M => M
  | n + 1, M => step n (itM step n M)
def scr (a : Nat) : Prop := a = 4 ∨ (6 ≤ a ∧ a < 15) ∨ (55 ≤ a ∧ a < 64)
/-- the same but for the rows that are filled anew -/
def SX (M M' : pmM) : Prop := M'.2 = M.2 ∧ ∀ a k, ¬ scr a → M'.1 a k = M.1 a k
theorem SX.rf (M : pmM) : SX M M := ⟨rfl, fun _ _ _ => rfl⟩
theorem SX.tr {M M' M'' : pmM} (h : SX M M') (h' : SX M' M'') : SX M M'' := ⟨h'.1.trans h.1, fun a k q => (h'.2 a k q).trans (h.2 a k q)⟩
theorem SX.put {M : pmM} {f : Nat → Nat → Int32} {a k : Nat} {v : Int32} (ha : scr a) (h : SX M (f, M.2)) : SX M (pm2 f a k v, M.2) := ⟨rfl, fun b j q => by
  show (if b = a ∧ j = k then v else f b j) = _
  rw [if_neg (fun e => q (by rw [e.1]; exact ha))]
  exact h.2 b j q⟩
theorem SX.it {step : Nat → pmM → pmM} {N : Nat} (h : ∀ i M, i < N → SX M (step i M)) (M : pmM) : ∀ n, n ≤ N → SX M (itM step n M)
  | 0, _ => SX.rf M
  | n + 1, hn => (SX.it h M n (by omega)).tr (h n _ hn)
theorem SX.mr {M M' : pmM} {od : Nat → Nat} (h : SX M M') (hmr : M.2.1 = mrC od) : M'.2.1 = mrC od := by rw [h.1]; exact hmr
theorem SX.inF {M M' : pmM} {od : Nat → Nat} (h : SX M M') {p : Nat} (hp : od p < 8) : inF M' od p = inF M od p := by
  show lastF _ _ = lastF _ _
  rw [h.2 _ _ (by unfold scr; omega), h.2 _ _ (by unfold scr; omega)]
/-- the least number below n of which b holds, else n -/
def fi (b : Nat → Bool) : Nat → Nat
  | 0 => 0
  | n + 1 => if fi b n < n then fi b n else if b n = true then n else n + 1
theorem fi_le (b : Nat → Bool) : ∀ n, fi b n ≤ n
  | 0 => Nat.le_refl 0
  | n + 1 => by
    have := fi_le b n
    rw [fi]
    repeat' split
    all_goals omega
theorem fi_no (b : Nat → Bool) : ∀ n k, k < fi b n → b k = false
  | 0, k, h => absurd h (Nat.not_lt_zero k)
  | n + 1, k, h => by
    have ih := fi_no b n k
    have hle := fi_le b n
    rw [fi] at h
    split at h
    · exact ih h
    · rename_i h1
      split at h
      · exact ih (by omega)
      · rename_i h2
        by_cases e : k = n
        · rw [e]; exact Bool.not_eq_true _ |>.mp h2
        · exact ih (by omega)
theorem fi_yes (b : Nat → Bool) : ∀ n, fi b n < n → b (fi b n) = true
  | 0, h => absurd h (Nat.not_lt_zero _)
  | n + 1, h => by
    rw [fi] at h ⊢
    split
    · rename_i h1; exact fi_yes b n h1
    · rename_i h1
      rw [if_neg h1] at h
      split
      · rename_i h2; exact h2
      · rename_i h2
        rw [if_neg h2] at h
        exact absurd h (Nat.lt_irrefl _)
def puI (M : pmM) (f c : Nat) (v : Int32) : Nat := fi (fun q => decide (M.1 (56 + 3 * f) q = v)) c
def puM (f : Nat) (v : Int32) (M : pmM) : pmM :=
  if puI M f (ixN (M.1 (55 + 3 * f) 2)) v < ixN (M.1 (55 + 3 * f) 2) then (pm2 M.1 (57 + 3 * f) (puI M f (ixN (M.1 (55 + 3 * f) 2)) v) (M.1 (57 + 3 * f) (puI M f (ixN (M.1 (55 + 3 * f) 2)) v) + nI 1), M.2)
  else (pm2 (pm2 (pm2 M.1 (56 + 3 * f) (ixN (M.1 (55 + 3 * f) 2)) v) (57 + 3 * f) (ixN (M.1 (55 + 3 * f) 2)) (nI 1)) (55 + 3 * f) 2 (nI (ixN (M.1 (55 + 3 * f) 2) + 1)), M.2)
theorem ixN_n {c : Nat} (h : c < 2 ^ 31) : ixN (nI c) = c := nI_clamp h
theorem puM_hit {M : pmM} {f c i : Nat} {v : Int32} (hc : M.1 (55 + 3 * f) 2 = nI c) (hcl : c ≤ 32) (he : puI M f c v = i) (hi : i < c) : puM f v M = (pm2 M.1 (57 + 3 * f) i (M.1 (57 + 3 * f) i + nI 1), M.2) := by
  unfold puM
  rw [hc, ixN_n (by omega), he, if_pos hi]
theorem puM_new {M : pmM} {f c : Nat} {v : Int32} (hc : M.1 (55 + 3 * f) 2 = nI c) (hcl : c ≤ 32) (he : ¬ puI M f c v < c) : puM f v M = (pm2 (pm2 (pm2 M.1 (56 + 3 * f) c v) (57 + 3 * f) c (nI 1)) (55 + 3 * f) 2 (nI (c + 1)), M.2) := by
  unfold puM
  rw [hc, ixN_n (by omega), if_neg he]
theorem puM_SX {f : Nat} (hf : f < 3) (v : Int32) (M : pmM) : SX M (puM f v M) := by
  unfold puM
  split
  · exact SX.put (by unfold scr; omega) (SX.rf M)
  · exact SX.put (by unfold scr; omega) (SX.put (by unfold scr; omega) (SX.put (by unfold scr; omega) (SX.rf M)))
theorem pm2_at {α : Type} {g : Nat → Nat → α} {a k b j : Nat} {v : α} : pm2 g a k v b j = if b = a ∧ j = k then v else g b j := rfl
theorem puM_cnt {M : pmM} {f c : Nat} {v : Int32} (hc : M.1 (55 + 3 * f) 2 = nI c) (hcl : c ≤ 32) : ∃ d, d ≤ c + 1 ∧ (puM f v M).1 (55 + 3 * f) 2 = nI d := by
  by_cases h : puI M f c v < c
  · rw [puM_hit hc hcl rfl h]
    exact ⟨c, by omega, by show pm2 _ _ _ _ _ _ = _; rw [pm2_at, if_neg (by omega)]; exact hc⟩
  · rw [puM_new hc hcl h]
    exact ⟨c + 1, Nat.le_refl _, by show pm2 _ _ _ _ _ _ = _; rw [pm2_at, if_pos ⟨rfl, rfl⟩]⟩
theorem s_put {l : Launch} (hf : l.stackTraces = false) {M : pmM} {od : Nat → Nat} (hmr : M.2.1 = mrC od) {f : Nat} (hf3 : f < 3) {c : Nat} (hc : M.1 (55 + 3 * f) 2 = nI c) (hcl : c < 32) {v : Int32} : Sp l kX0_put 64 0 0 0 [.ref (55 + 3 * f), .int v] M (.inl none) (puM f v M) := by
  refine sp_of hf (by decide +kernel) (Nat.le_of_ble_eq_true rfl) (by intro v hv; simp at hv; rcases hv with rfl | rfl <;> rfl) rfl ?_
  have hle : puI M f c v ≤ c := fi_le _ _
  have hno : ∀ q, q < puI M f c v → ¬ M.1 (56 + 3 * f) q = v := fun q hq e => by
    have := fi_no _ _ q hq
    simp [e] at this
  have M0 : SX M (pm2 M.1 (56 + 3 * f) c v, M.2) := SX.put (by unfold scr; omega) (SX.rf M)
  refine e_iconst (v := nI 0) dX0_put_0 rfl ic_0 ?_
  refine e_istore_2 dX0_put_1 rfl (Nat.le_of_ble_eq_true rfl) rfl ?_
  refine loop_up (P := fun i => Ev l kX0_put (gM 64 0 0 (.inl none) (puM f v M)) (rmd 0 0 0) 64 0 0 2 [some (.ref (55 + 3 * f)), some (.int v), some (.int (nI i))] [] M) ?_ (fun i hi ih => ?_) 0 (Nat.zero_le (puI M f c v))
  · by_cases h : puI M f c v < c
    · have hy : M.1 (56 + 3 * f) (puI M f c v) = v := of_decide_eq_true (fi_yes _ _ h)
      refine e_iload_2 dX0_put_2 rfl ?_
      refine e_aload_0 dX0_put_3 rfl ?_
      refine e_getI dX0_put_4 rfl lkX0_18 rfl (ps_g hf3) (by decide) (lt_GR hf3) ?_
      refine e_topi (nI c) hc ?_
      refine e_nc_ge_f dX0_put_7 rfl ⟨37, by decide⟩ (by omega) (by omega) h ?_
      refine e_aload_0 dX0_put_10 rfl ?_
      refine e_getR dX0_put_11 rfl lkX0_9 rfl (ps_g hf3) (by decide) (lt_GR hf3) (mr_of hmr (mr_g0 _ hf3)) ?_
      refine e_iload_2 dX0_put_14 rfl ?_
      refine e_iald dX0_put_15 rfl (ps_gM hf3) (lt_GM hf3) rfl (by omega) ?_
      refine e_iload_1 dX0_put_16 rfl ?_
      refine e_ic_ne_f dX0_put_17 rfl ⟨31, by decide⟩ hy ?_
      refine e_aload_0 dX0_put_20 rfl ?_
      refine e_getR dX0_put_21 rfl lkX0_15 rfl (ps_g hf3) (by decide) (lt_GR hf3) (mr_of hmr (mr_g1 _ hf3)) ?_
      refine e_iload_2 dX0_put_24 rfl ?_
      refine e_dup2 dX0_put_25 rfl rfl rfl ?_
      refine e_iald dX0_put_26 rfl (ps_gS hf3) (lt_GS hf3) rfl (by omega) ?_
      refine e_iconst (v := nI 1) dX0_put_27 rfl ic_1 ?_
      refine e_iadd dX0_put_28 rfl ?_
      refine e_iast dX0_put_29 rfl (ps_gS hf3) (lt_GS hf3) rfl (by omega) ?_
      exact e_vret dX0_put_30 rfl (Nat.le_of_ble_eq_true rfl) (Nat.le_of_ble_eq_true rfl) (puM_hit hc (Nat.le_of_lt hcl) rfl h).symm
    · refine e_iload_2 dX0_put_2 rfl ?_
      refine e_aload_0 dX0_put_3 rfl ?_
      refine e_getI dX0_put_4 rfl lkX0_18 rfl (ps_g hf3) (by decide) (lt_GR hf3) ?_
      refine e_topi (nI c) hc ?_
      refine e_nc_ge_t (tgt := 37) dX0_put_7 (by decide) (by omega) (by omega) (by omega) ?_
      refine e_aload_0 dX0_put_37 rfl ?_
      refine e_getI dX0_put_38 rfl lkX0_18 rfl (ps_g hf3) (by decide) (lt_GR hf3) ?_
      refine e_topi (nI c) hc ?_
      refine e_bipush (v := nI 32) dX0_put_41 rfl bc_32 ?_
      refine e_nc_ge_f dX0_put_43 rfl ⟨76, by decide⟩ (by omega) (by omega) hcl ?_
      refine e_aload_0 dX0_put_46 rfl ?_
      refine e_getR dX0_put_47 rfl lkX0_9 rfl (ps_g hf3) (by decide) (lt_GR hf3) (mr_of hmr (mr_g0 _ hf3)) ?_
      refine e_aload_0 dX0_put_50 rfl ?_
      refine e_getI dX0_put_51 rfl lkX0_18 rfl (ps_g hf3) (by decide) (lt_GR hf3) ?_
      refine e_topi (nI c) hc ?_
      refine e_iload_1 dX0_put_54 rfl ?_
      refine e_iast dX0_put_55 rfl (ps_gM hf3) (lt_GM hf3) rfl (by omega) ?_
      refine e_aload_0 dX0_put_56 rfl ?_
      refine e_getR dX0_put_57 rfl lkX0_15 rfl (ps_g hf3) (by decide) (lt_GR hf3) (mr_of hmr (mr_g1 _ hf3)) ?_
      refine e_aload_0 dX0_put_60 rfl ?_
      refine e_getI dX0_put_61 rfl lkX0_18 rfl (ps_g hf3) (by decide) (lt_GR hf3) ?_
      refine e_topi (nI c) (show (pm2 M.1 (56 + 3 * f) c v) (55 + 3 * f) 2 = nI c by rw [pm2_at, if_neg (by omega)]; exact hc) ?_
      refine e_iconst (v := nI 1) dX0_put_64 rfl ic_1 ?_
      refine e_iast dX0_put_65 rfl (ps_gS hf3) (lt_GS hf3) rfl (by omega) ?_
      refine e_aload_0 dX0_put_66 rfl ?_
      refine e_dup dX0_put_67 rfl rfl ?_
      refine e_getI dX0_put_68 rfl lkX0_18 rfl (ps_g hf3) (by decide) (lt_GR hf3) ?_
      refine e_topi (nI c) (show (pm2 (pm2 M.1 (56 + 3 * f) c v) (57 + 3 * f) c (nI 1)) (55 + 3 * f) 2 = nI c by rw [pm2_at, if_neg (by omega), pm2_at, if_neg (by omega)]; exact hc) ?_
      refine e_iconst (v := nI 1) dX0_put_71 rfl ic_1 ?_
      refine e_iadd dX0_put_72 rfl ?_
      refine e_topi (nI (c + 1)) (nI_add _ _) ?_
      refine e_putI dX0_put_73 rfl lkX0_18 rfl rfl rfl (ps_g hf3) (by decide) (lt_GR hf3) ?_
      exact e_vret dX0_put_76 rfl (Nat.le_of_ble_eq_true rfl) (Nat.le_of_ble_eq_true rfl) (puM_new hc (Nat.le_of_lt hcl) h).symm
  · refine e_iload_2 dX0_put_2 rfl ?_
    refine e_aload_0 dX0_put_3 rfl ?_
    refine e_getI dX0_put_4 rfl lkX0_18 rfl (ps_g hf3) (by decide) (lt_GR hf3) ?_
    refine e_topi (nI c) hc ?_
    refine e_nc_ge_f dX0_put_7 rfl ⟨37, by decide⟩ (by omega) (by omega) (by omega) ?_
    refine e_aload_0 dX0_put_10 rfl ?_
    refine e_getR dX0_put_11 rfl lkX0_9 rfl (ps_g hf3) (by decide) (lt_GR hf3) (mr_of hmr (mr_g0 _ hf3)) ?_
    refine e_iload_2 dX0_put_14 rfl ?_
    refine e_iald dX0_put_15 rfl (ps_gM hf3) (lt_GM hf3) rfl (by omega) ?_
    refine e_iload_1 dX0_put_16 rfl ?_
    refine e_ic_ne_t (tgt := 31) dX0_put_17 (by decide) (hno i hi) ?_
    refine e_iinc_2 (v := nI (i + 1)) dX0_put_31 rfl (Nat.le_of_ble_eq_true rfl) rfl (nI_1 i) ?_
    refine e_goto (tgt := 2) dX0_put_34 (by decide) ?_
    exact ih
def gv0 (f : Nat) (M : pmM) : pmM := (pm2 M.1 (55 + 3 * f) 2 (nI 0), M.2)
def gvS (f : Nat) (v : Nat) (M : pmM) : pmM := puM f (M.1 4 v) M
def gvM (f : Nat) (M : pmM) : pmM := itM (gvS f) 32 (gv0 f M)
theorem gv_SX {f : Nat} (hf : f < 3) (M : pmM) (n : Nat) : SX M (itM (gvS f) n (gv0 f M)) := (SX.put (by unfold scr; omega) (SX.rf M)).tr (SX.it (N := n) (fun i M _ => puM_SX hf _ M) _ n (Nat.le_refl n))
theorem gv_cnt {f : Nat} (M : pmM) : ∀ n, n ≤ 32 → ∃ c, c ≤ n ∧ (itM (gvS f) n (gv0 f M)).1 (55 + 3 * f) 2 = nI c
  | 0, _ => ⟨0, Nat.le_refl 0, by show pm2 _ _ _ _ _ _ = _; rw [pm2_at, if_pos ⟨rfl, rfl⟩]⟩
  | n + 1, hn => by
    obtain ⟨c, h1, h2⟩ := gv_cnt M n (by omega)
    obtain ⟨d, h3, h4⟩ := puM_cnt (v := (itM (gvS f) n (gv0 f M)).1 4 n) h2 (by omega)
    exact ⟨d, by omega, h4⟩
theorem s_groupValues {l : Launch} (hf : l.stackTraces = false) {M : pmM} {od : Nat → Nat} (hmr : M.2.1 = mrC od) {f : Nat} (hf3 : f < 3) : Sp l kX3_groupValues 64 1 0 0 [.ref 0, .ref (55 + 3 * f)] M (.inl none) (gvM f M) := by
  refine sp_of hf (by decide +kernel) (Nat.le_of_ble_eq_true rfl) (by intro v hv; simp at hv; rcases hv with rfl | rfl <;> rfl) rfl ?_
  refine e_aload_1 dX3_groupValues_0 rfl ?_
  refine e_iconst (v := nI 0) dX3_groupValues_1 rfl ic_0 ?_
  refine e_putI dX3_groupValues_2 rfl lkX3_301 rfl rfl rfl (ps_g hf3) (by decide) (lt_GR hf3) ?_
  refine e_iconst (v := nI 0) dX3_groupValues_5 rfl ic_0 ?_
  refine e_istore_2 dX3_groupValues_6 rfl (Nat.le_of_ble_eq_true rfl) rfl ?_
  refine loop_up (P := fun i => Ev l kX3_groupValues (gM 64 0 0 (.inl none) (gvM f M)) (rmd 1 0 0) 64 0 0 7 [some (.ref 0), some (.ref (55 + 3 * f)), some (.int (nI i))] [] (itM (gvS f) i (gv0 f M))) ?_ (fun i hi ih => ?_) 0 (Nat.zero_le 32)
  · refine e_iload_2 dX3_groupValues_7 rfl ?_
    refine e_bipush (v := nI 32) dX3_groupValues_8 rfl bc_32 ?_
    refine e_nc_ge_t (tgt := 29) dX3_groupValues_10 (by decide) (by omega) (by omega) (Nat.le_refl 32) ?_
    exact e_vret dX3_groupValues_29 rfl (Nat.le_of_ble_eq_true rfl) (Nat.le_of_ble_eq_true rfl) rfl
  · obtain ⟨c, hc1, hc2⟩ := gv_cnt (f := f) M i (Nat.le_of_lt hi)
    refine e_iload_2 dX3_groupValues_7 rfl ?_
    refine e_bipush (v := nI 32) dX3_groupValues_8 rfl bc_32 ?_
    refine e_nc_ge_f dX3_groupValues_10 rfl ⟨29, by decide⟩ (by omega) (by omega) hi ?_
    refine e_aload_1 dX3_groupValues_13 rfl ?_
    refine e_aload_0 dX3_groupValues_14 rfl ?_
    refine e_getR dX3_groupValues_15 rfl lkX3_27 rfl ps_0 (by decide) (by decide) (mr_of ((gv_SX hf3 M i).mr hmr) rfl) ?_
    refine e_iload_2 dX3_groupValues_18 rfl ?_
    refine e_iald dX3_groupValues_19 rfl ps_4 (by decide) rfl (by omega) ?_
    refine e_callN dX3_groupValues_20 rfl csX3_313 (s_put (M := itM (gvS f) i (gv0 f M)) hf ((gv_SX hf3 M i).mr hmr) hf3 hc2 (by omega)) rfl rfl (ps_g hf3) (by decide) (lt_GR hf3) ⟨Nat.le_of_ble_eq_true rfl, Nat.le_of_ble_eq_true rfl⟩ ⟨Nat.le_of_ble_eq_true rfl, Nat.le_of_ble_eq_true rfl⟩ rfl rfl (Nat.le_of_ble_eq_true rfl) ?_
    refine e_iinc_2 (v := nI (i + 1)) dX3_groupValues_23 rfl (Nat.le_of_ble_eq_true rfl) rfl (nI_1 i) ?_
    refine e_goto (tgt := 7) dX3_groupValues_26 (by decide) ?_
    exact ih
