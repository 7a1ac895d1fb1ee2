/-! ===== law: the loop ===== -/
theorem nI_i {k : Nat} (hk : k < 64) : (nI k).toInt = (k : Int) := (show ∀ k, k < 64 → (nI k).toInt = (k : Int) by decide +kernel) k hk
theorem lw_one {l : Launch} (hf : l.stackTraces = false) {nm : String} {hl : List (Nat × Nat × Nat × Nat)} {b Ln : Nat} {xs : Nat → Int32} (hL : Ln ≤ 3584) {M : pmM} (h : RLX M) {j u w : Nat} (hi : 7 * j + 7 ≤ Ln) (hu : u + 6 ≤ 628212) (hw : w + 36 ≤ 7131595) (kk : ∀ N, RLX N → Ev l (kLaw nm hl) (gS b Ln xs) room_1 86 (u + 6) (w + 36) 2200 [some (.ref 1000), some (.ref 0), some (.ref 64), some (.ref 84), some (.ref 85), some (.int (nI (7 * j))), none, none, none] [] N) : Ev l (kLaw nm hl) (gS b Ln xs) room_1 86 u w 38 [some (.ref 1000), some (.ref 0), some (.ref 64), some (.ref 84), some (.ref 85), some (.int (nI (7 * j))), none, none, none] [] M := by
  refine e_aload_0 dL_law_38 rfl ?_
  refine e_iload_5 dL_law_39 rfl ?_
  refine e_sld dL_law_41 rfl rfl (by omega) hL ?_
  refine e_bipush (v := nI 63) dL_law_42 rfl bc_63 ?_
  obtain ⟨k, hk, e⟩ := and63 (xs (7 * j))
  refine e_iand dL_law_44 rfl ?_
  refine e_topi (nI k) e ?_
  by_cases hk34 : k < 34
  · match k, hk34 with
    | 0, _ => exact e_swT dL_law_45 (o := 151) (by decide +kernel) (by decide +kernel) (show (45 : Int) + 151 = ((196 : Nat) : Int) by decide) (lc_addObject hf hL h hi hu hw kk)
    | 1, _ => exact e_swT dL_law_45 (o := 195) (by decide +kernel) (by decide +kernel) (show (45 : Int) + 195 = ((240 : Nat) : Int) by decide) (lc_addRange hf hL h hi hu hw kk)
    | 2, _ => exact e_swT dL_law_45 (o := 275) (by decide +kernel) (by decide +kernel) (show (45 : Int) + 275 = ((320 : Nat) : Int) by decide) (lc_removeRange hf hL h hi hu hw kk)
    | 3, _ => exact e_swT dL_law_45 (o := 331) (by decide +kernel) (by decide +kernel) (show (45 : Int) + 331 = ((376 : Nat) : Int) by decide) (lc_addMember hf hL h hi hu hw kk)
    | 4, _ => exact e_swT dL_law_45 (o := 399) (by decide +kernel) (by decide +kernel) (show (45 : Int) + 399 = ((444 : Nat) : Int) by decide) (lc_removeMember hf hL h hi hu hw kk)
    | 5, _ => exact e_swT dL_law_45 (o := 467) (by decide +kernel) (by decide +kernel) (show (45 : Int) + 467 = ((512 : Nat) : Int) by decide) (lc_values hf hL h hi hu hw kk)
    | 6, _ => exact e_swT dL_law_45 (o := 523) (by decide +kernel) (by decide +kernel) (show (45 : Int) + 523 = ((568 : Nat) : Int) by decide) (lc_hasValue hf hL h hi hu hw kk)
    | 7, _ => exact e_swT dL_law_45 (o := 598) (by decide +kernel) (by decide +kernel) (show (45 : Int) + 598 = ((643 : Nat) : Int) by decide) (lc_users hf hL h hi hu hw kk)
    | 8, _ => exact e_swT dL_law_45 (o := 654) (by decide +kernel) (by decide +kernel) (show (45 : Int) + 654 = ((699 : Nat) : Int) by decide) (lc_addRule hf hL h hi hu hw kk)
    | 9, _ => exact e_swT dL_law_45 (o := 774) (by decide +kernel) (by decide +kernel) (show (45 : Int) + 774 = ((819 : Nat) : Int) by decide) (lc_removeRule hf hL h hi hu hw kk)
    | 10, _ => exact e_swT dL_law_45 (o := 830) (by decide +kernel) (by decide +kernel) (show (45 : Int) + 830 = ((875 : Nat) : Int) by decide) (lc_setLastDay hf hL h hi hu hw kk)
    | 11, _ => exact e_swT dL_law_45 (o := 898) (by decide +kernel) (by decide +kernel) (show (45 : Int) + 898 = ((943 : Nat) : Int) by decide) (lc_rules hf hL h hi hu hw kk)
    | 12, _ => exact e_swT dL_law_45 (o := 911) (by decide +kernel) (by decide +kernel) (show (45 : Int) + 911 = ((956 : Nat) : Int) by decide) (lc_ruleAt hf hL h hi hu hw kk)
    | 13, _ => exact e_swT dL_law_45 (o := 967) (by decide +kernel) (by decide +kernel) (show (45 : Int) + 967 = ((1012 : Nat) : Int) by decide) (lc_isInForce hf hL h hi hu hw kk)
    | 14, _ => exact e_swT dL_law_45 (o := 1030) (by decide +kernel) (by decide +kernel) (show (45 : Int) + 1030 = ((1075 : Nat) : Int) by decide) (lc_expiring hf hL h hi hu hw kk)
    | 15, _ => exact e_swT dL_law_45 (o := 1098) (by decide +kernel) (by decide +kernel) (show (45 : Int) + 1098 = ((1143 : Nat) : Int) by decide) (lc_packet hf hL h hi hu hw kk)
    | 16, _ => exact e_swT dL_law_45 (o := 1178) (by decide +kernel) (by decide +kernel) (show (45 : Int) + 1178 = ((1223 : Nat) : Int) by decide) (lc_decider hf hL h hi hu hw kk)
    | 17, _ => exact e_swT dL_law_45 (o := 1258) (by decide +kernel) (by decide +kernel) (show (45 : Int) + 1258 = ((1303 : Nat) : Int) by decide) (lc_hits hf hL h hi hu hw kk)
    | 18, _ => exact e_swT dL_law_45 (o := 1314) (by decide +kernel) (by decide +kernel) (show (45 : Int) + 1314 = ((1359 : Nat) : Int) by decide) (lc_busyDays hf hL h hi hu hw kk)
    | 19, _ => exact e_swT dL_law_45 (o := 1370) (by decide +kernel) (by decide +kernel) (show (45 : Int) + 1370 = ((1415 : Nat) : Int) by decide) (lc_idleDays hf hL h hi hu hw kk)
    | 20, _ => exact e_swT dL_law_45 (o := 1426) (by decide +kernel) (by decide +kernel) (show (45 : Int) + 1426 = ((1471 : Nat) : Int) by decide) (lc_pass hf hL h hi hu hw kk)
    | 21, _ => exact e_swT dL_law_45 (o := 1482) (by decide +kernel) (by decide +kernel) (show (45 : Int) + 1482 = ((1527 : Nat) : Int) by decide) (lc_day hf hL h hi hu hw kk)
    | 22, _ => exact e_swT dL_law_45 (o := 1495) (by decide +kernel) (by decide +kernel) (show (45 : Int) + 1495 = ((1540 : Nat) : Int) by decide) (lc_matched hf hL h hi hu hw kk)
    | 23, _ => exact e_swT dL_law_45 (o := 1551) (by decide +kernel) (by decide +kernel) (show (45 : Int) + 1551 = ((1596 : Nat) : Int) by decide) (lc_decided hf hL h hi hu hw kk)
    | 24, _ => exact e_swT dL_law_45 (o := 1607) (by decide +kernel) (by decide +kernel) (show (45 : Int) + 1607 = ((1652 : Nat) : Int) by decide) (lc_decidedBySamples hf hL h hi hu hw kk)
    | 25, _ => exact e_swT dL_law_45 (o := 1663) (by decide +kernel) (by decide +kernel) (show (45 : Int) + 1663 = ((1708 : Nat) : Int) by decide) (lc_isShadowed hf hL h hi hu hw kk)
    | 26, _ => exact e_swT dL_law_45 (o := 1726) (by decide +kernel) (by decide +kernel) (show (45 : Int) + 1726 = ((1771 : Nat) : Int) by decide) (lc_mainShadow hf hL h hi hu hw kk)
    | 27, _ => exact e_swT dL_law_45 (o := 1782) (by decide +kernel) (by decide +kernel) (show (45 : Int) + 1782 = ((1827 : Nat) : Int) by decide) (lc_accepted hf hL h hi hu hw kk)
    | 28, _ => exact e_swT dL_law_45 (o := 1795) (by decide +kernel) (by decide +kernel) (show (45 : Int) + 1795 = ((1840 : Nat) : Int) by decide) (lc_changedByMove hf hL h hi hu hw kk)
    | 29, _ => exact e_swT dL_law_45 (o := 1863) (by decide +kernel) (by decide +kernel) (show (45 : Int) + 1863 = ((1908 : Nat) : Int) by decide) (lc_move hf hL h hi hu hw kk)
    | 30, _ => exact e_swT dL_law_45 (o := 1931) (by decide +kernel) (by decide +kernel) (show (45 : Int) + 1931 = ((1976 : Nat) : Int) by decide) (lc_sortByHits hf hL h hi hu hw kk)
    | 31, _ => exact e_swT dL_law_45 (o := 1944) (by decide +kernel) (by decide +kernel) (show (45 : Int) + 1944 = ((1989 : Nat) : Int) by decide) (lc_changedByRange hf hL h hi hu hw kk)
    | 32, _ => exact e_swT dL_law_45 (o := 2024) (by decide +kernel) (by decide +kernel) (show (45 : Int) + 2024 = ((2069 : Nat) : Int) by decide) (lc_shadowedShare hf hL h hi hu hw kk)
    | 33, _ => exact e_swT dL_law_45 (o := 2090) (by decide +kernel) (by decide +kernel) (show (45 : Int) + 2090 = ((2135 : Nat) : Int) by decide) (lc_meanHits hf hL h hi hu hw kk)
    | _ + 34, z => exact absurd z (by omega)
  · have hz : (nI k).toInt > 33 := by rw [nI_i hk]; omega
    refine e_swD dL_law_45 (Or.inr hz) (show (45 : Int) + 2155 = ((2200 : Nat) : Int) by decide) ?_
    exact e_wid (show u ≤ u + 6 by omega) (show w ≤ w + 36 by omega) (kk M h)
theorem lw_loop {l : Launch} (hf : l.stackTraces = false) {nm : String} {hl : List (Nat × Nat × Nat × Nat)} {b Ln : Nat} {xs : Nat → Int32} (hL : Ln ≤ 3584) {U0 W0 : Nat} (hU : U0 + 3072 ≤ 628212) (hW : W0 + 18432 ≤ 7131595) : ∀ (r j : Nat), Ln < 7 * j + 7 * r → 7 * j ≤ Ln → ∀ M, RLX M → Ev l (kLaw nm hl) (gS b Ln xs) room_1 86 (U0 + 6 * j) (W0 + 36 * j) 28 [some (.ref 1000), some (.ref 0), some (.ref 64), some (.ref 84), some (.ref 85), some (.int (nI (7 * j))), none, none, none] [] M
  | 0, j, h1, h2, M, h => absurd h1 (by omega)
  | r + 1, j, h1, h2, M, h => by
    refine e_iload_5 dL_law_28 rfl ?_
    refine e_aload_0 dL_law_30 rfl ?_
    refine e_slen dL_law_31 rfl ?_
    refine e_bipush (v := nI 7) dL_law_32 rfl bc_7 ?_
    refine e_isub dL_law_34 rfl ?_
    by_cases h7 : Ln < 7
    · have hj : j = 0 := by omega
      subst hj
      refine e_ic_gt_t (tgt := 2206) dL_law_35 (by decide) ((show ∀ a, a < 7 → nI a - nI 7 < nI (7 * 0) by decide +kernel) Ln h7) ?_
      refine e_iconst (v := nI 1) dL_law_2206 rfl ic_1 ?_
      exact e_lret dL_law_2207 (by omega) (by omega)
    · refine e_topi (nI (Ln - 7)) (pk_sub (by omega)) ?_
      by_cases hi : 7 * j + 7 ≤ Ln
      · refine e_nc_gt_f dL_law_35 rfl ⟨2206, by decide⟩ (by omega) (by omega) (by omega) ?_
        refine lw_one hf hL h hi (by omega) (by omega) (fun N hN => ?_)
        refine e_iinc_5 (v := nI (7 * (j + 1))) dL_law_2200 rfl (Nat.le_of_ble_eq_true rfl) rfl (show nI (7 * j) + nI 7 = nI (7 * j + 7) from nI_add _ _) ?_
        refine e_goto (tgt := 28) dL_law_2203 (by decide) ?_
        exact lw_loop hf hL hU hW r (j + 1) (by omega) (by omega) N hN
      · refine e_nc_gt_t (tgt := 2206) dL_law_35 (by decide) (by omega) (by omega) (by omega) ?_
        refine e_iconst (v := nI 1) dL_law_2206 rfl ic_1 ?_
        exact e_lret dL_law_2207 (by omega) (by omega)
