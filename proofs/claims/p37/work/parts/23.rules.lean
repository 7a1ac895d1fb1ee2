/-! ===== FilterRules: the calls about rules ===== -/
def obOk (oc : Nat) (x : Int32) : Prop := x = -1 ∨ ∃ o : Nat, o < oc ∧ x = nI o
theorem s_rqOrNone_ok {l : Launch} (hf : l.stackTraces = false) {M : pmM} {oc : Nat} (hoc : M.1 0 1 = nI oc) (h8 : oc ≤ 8) {x : Int32} (hx : obOk oc x) : Sp l kX3_requireObjectOrNone 64 2 1 6 [.ref 0, .int x] M (.inl none) M := by
  rcases hx with rfl | ⟨o, ho, rfl⟩
  · exact s_requireOrNone_none hf
  · exact s_requireOrNone_ok hf hoc h8 ho
theorem s_rqOrNone_no {l : Launch} (hf : l.stackTraces = false) {M : pmM} {oc : Nat} (hoc : M.1 0 1 = nI oc) (h8 : oc ≤ 8) {x : Int32} (hx : ¬ obOk oc x) : Sp l kX3_requireObjectOrNone 64 2 1 6 [.ref 0, .int x] M (.inr "java/lang/IndexOutOfBoundsException") M := by
  refine s_requireOrNone_no hf hoc h8 (fun h => ?_) (fun h => hx (Or.inl h))
  obtain ⟨o, ho, e⟩ := vp_in_of h (by omega)
  exact hx (Or.inr ⟨o, ho, e⟩)
/-- the row of a new rule -/
def nrM (M : pmM) (j : Nat) (nn ac ow td a b c : Int32) : pmM := (pm2 (pm2 (pm2 (beM M j nn ac ow td).1 (32 + 3 * j) 0 a) (32 + 3 * j) 1 b) (32 + 3 * j) 2 c, M.2)
def anM (M : pmM) (j rc g : Nat) (ac ow td a b c : Int32) : pmM := (pm2 (pm2 (nrM M j (nI g) ac ow td a b c).1 0 4 (nI (g + 1))) 0 3 (nI (rc + 1)), M.2)
theorem beM_no {M : pmM} {j : Nat} {nn ac ow td : Int32} {x k : Nat} (h : x ≠ 31 + 3 * j) : (beM M j nn ac ow td).1 x k = M.1 x k := by
  unfold beM
  show pm2 _ _ _ _ _ _ = _
  rw [pm2_n h, pm2_n h, pm2_n h, pm2_n h, pm2_n h, pm2_n h, pm2_n h, pm2_n h]
theorem beM_0 {M : pmM} {j : Nat} {nn ac ow td : Int32} : (beM M j nn ac ow td).1 (31 + 3 * j) 0 = nn := by
  unfold beM
  show pm2 _ _ _ _ _ _ = _
  rw [pm2_k (by decide), pm2_k (by decide), pm2_k (by decide), pm2_k (by decide), pm2_k (by decide), pm2_k (by decide), pm2_k (by decide), pm2_e]
theorem nrM_no {M : pmM} {j : Nat} {nn ac ow td a b c : Int32} {x k : Nat} (h : x ≠ 31 + 3 * j) (h2 : x ≠ 32 + 3 * j) : (nrM M j nn ac ow td a b c).1 x k = M.1 x k := by
  unfold nrM
  show pm2 _ _ _ _ _ _ = _
  rw [pm2_n h2, pm2_n h2, pm2_n h2, beM_no h]
theorem anM_no {M : pmM} {j rc g : Nat} {ac ow td a b c : Int32} {x k : Nat} (h0 : x ≠ 0) (h : x ≠ 31 + 3 * j) (h2 : x ≠ 32 + 3 * j) : (anM M j rc g ac ow td a b c).1 x k = M.1 x k := by
  unfold anM
  show pm2 _ _ _ _ _ _ = _
  rw [pm2_n h0, pm2_n h0, nrM_no h h2]
theorem nrM_B {M : pmM} {j f : Nat} {nn ac ow td a b c : Int32} (hf : f < 3) : (nrM M j nn ac ow td a b c).1 (32 + 3 * j) f = if f = 0 then a else if f = 1 then b else c := by
  unfold nrM
  show pm2 _ _ _ _ _ _ = _
  rcases (show f = 0 ∨ f = 1 ∨ f = 2 by omega) with rfl | rfl | rfl
  · rw [pm2_k (by decide), pm2_k (by decide), pm2_e]; rfl
  · rw [pm2_k (by decide), pm2_e]; rfl
  · rw [pm2_e]; rfl
theorem anM_B {M : pmM} {j rc g f : Nat} {ac ow td a b c : Int32} (hf : f < 3) : (anM M j rc g ac ow td a b c).1 (32 + 3 * j) f = if f = 0 then a else if f = 1 then b else c := by
  unfold anM
  show pm2 _ _ _ _ _ _ = _
  rw [pm2_n (by omega), pm2_n (by omega), nrM_B hf]
theorem anM_0 {M : pmM} {j rc g : Nat} {ac ow td a b c : Int32} : (anM M j rc g ac ow td a b c).1 (31 + 3 * j) 0 = nI g := by
  unfold anM
  show pm2 _ _ _ _ _ _ = _
  rw [pm2_n (by omega), pm2_n (by omega)]
  unfold nrM
  show pm2 _ _ _ _ _ _ = _
  rw [pm2_n (by omega), pm2_n (by omega), pm2_n (by omega), beM_0]
theorem anM_rc {M : pmM} {j rc g : Nat} {ac ow td a b c : Int32} : (anM M j rc g ac ow td a b c).1 0 3 = nI (rc + 1) := rfl
theorem ch_ok {x : Int32} (h : x = nI 97 ∨ x = nI 100) : narrow .char (.int x) = .int x ∧ fits .char (.int x) = true := by
  rcases h with rfl | rfl
  · exact pk_charN (by decide)
  · exact pk_charN (by decide)
theorem s_addRule_ok {l : Launch} (hf : l.stackTraces = false) {M : pmM} {od : Nat → Nat} (hmr : M.2.1 = mrC od) (hod : ∀ p, p < 8 → od p < 8) {rc : Nat} (hrc : M.1 0 3 = nI rc) (h8 : rc ≤ 8) {rg : Nat → Nat} (hrg : ∀ o, o < 8 → M.1 (15 + 2 * o) 1 = nI (rg o) ∧ rg o ≤ 3) (hfo : ∀ p f, p < rc → f < 3 → fOk (M.1 (32 + 3 * od p) f)) {oc : Nat} (hoc : M.1 0 1 = nI oc) (hoc8 : oc ≤ 8) {a b c : Int32} (ha : obOk oc a) (hb : obOk oc b) (hc : obOk oc c) {ac : Int32} (hac : ac = nI 97 ∨ ac = nI 100) {ow : Nat} (how : ow < 6) {g : Nat} (hg : M.1 0 4 = nI g) {p : Nat} (hp : p ≤ rc) (hlt : rc < 8) : Sp l kX3_addRule 64 11 6 36 [.ref 0, .int (nI p), .int ac, .int a, .int b, .int c, .int (nI ow)] M (.inl (some (.int (nI g)))) (umM (odM (anM M (od rc) rc g ac (nI ow) (M.1 0 5) a b c) (shO od rc p)) (shO od rc p) rg (rc + 1)) := by
  refine sp_of hf (by decide +kernel) (Nat.le_of_ble_eq_true rfl) (by intro v hv; simp at hv; rcases hv with rfl | rfl | rfl | rfl | rfl | rfl | rfl <;> rfl) rfl ?_
  have hj := hod rc hlt
  have hod2 := shO_lt hod hlt (show p < 8 by omega)
  have q1 : ∀ q, q < 8 → (odM (anM M (od rc) rc g ac (nI ow) (M.1 0 5) a b c) (shO od rc p)).1 (15 + 2 * q) 1 = nI (rg q) ∧ rg q ≤ 3 := fun q hq => ⟨by show (anM M (od rc) rc g ac (nI ow) (M.1 0 5) a b c).1 _ _ = _; rw [anM_no (by omega) (by omega) (by omega)]; exact (hrg q hq).1, (hrg q hq).2⟩
  have q2 : (odM (anM M (od rc) rc g ac (nI ow) (M.1 0 5) a b c) (shO od rc p)).1 0 3 = nI (rc + 1) := show (anM M (od rc) rc g ac (nI ow) (M.1 0 5) a b c).1 0 3 = nI (rc + 1) from anM_rc
  have qo : ∀ x, obOk oc x → fOk x := fun x hx => hx.elim Or.inl (fun ⟨o, h1, h2⟩ => Or.inr ⟨o, by omega, h2⟩)
  have q4 : ∀ q, q < rc → od q ≠ od rc → ∀ f, f < 3 → fOk ((odM (anM M (od rc) rc g ac (nI ow) (M.1 0 5) a b c) (shO od rc p)).1 (32 + 3 * od q) f) := fun q h1 h2 f h3 => by show fOk ((anM M (od rc) rc g ac (nI ow) (M.1 0 5) a b c).1 _ _); rw [anM_no (by omega) (by omega) (by omega)]; exact hfo q f h1 h3
  have q5 : ∀ f, f < 3 → fOk ((odM (anM M (od rc) rc g ac (nI ow) (M.1 0 5) a b c) (shO od rc p)).1 (32 + 3 * od rc) f) := by
    intro f h3
    show fOk ((anM M (od rc) rc g ac (nI ow) (M.1 0 5) a b c).1 _ _)
    rw [anM_B h3]
    repeat' split
    · exact qo a ha
    · exact qo b hb
    · exact qo c hc
  have q6 : ∀ q, q ≤ rc → ∀ f, f < 3 → fOk ((odM (anM M (od rc) rc g ac (nI ow) (M.1 0 5) a b c) (shO od rc p)).1 (32 + 3 * od q) f) := by
    intro q h1 f h3
    by_cases e : od q = od rc
    · rw [e]; exact q5 f h3
    · exact q4 q (Nat.lt_of_le_of_ne h1 (fun z => e (by rw [z]))) e f h3
  have q3 : ∀ q f, q < rc + 1 → f < 3 → fOk ((odM (anM M (od rc) rc g ac (nI ow) (M.1 0 5) a b c) (shO od rc p)).1 (32 + 3 * (shO od rc p) q) f) := by
    intro q f h1 h3
    unfold shO
    repeat' split
    all_goals exact q6 _ (by omega) f h3
  refine e_iload_1 dX3_addRule_0 rfl ?_
  refine e_if_lt_f dX3_addRule_1 rfl ⟨12, by decide⟩ (nI_pos (by omega)) ?_
  refine e_iload_1 dX3_addRule_4 rfl ?_
  refine e_aload_0 dX3_addRule_5 rfl ?_
  refine e_getI dX3_addRule_6 rfl lkX3_116 rfl ps_0 (by decide) (by decide) ?_
  refine e_topi (nI rc) hrc ?_
  refine e_nc_le_t (tgt := 22) dX3_addRule_9 (by decide) (by omega) (by omega) hp ?_
  refine e_aload_0 dX3_addRule_22 rfl ?_
  refine e_iload_3 dX3_addRule_23 rfl ?_
  refine e_callV dX3_addRule_24 rfl csX3_130 (s_rqOrNone_ok hf hoc hoc8 ha) rfl rfl ps_0 (by decide) (by decide) ⟨Nat.le_of_ble_eq_true rfl, Nat.le_of_ble_eq_true rfl⟩ ⟨Nat.le_of_ble_eq_true rfl, Nat.le_of_ble_eq_true rfl⟩ rfl rfl (Nat.le_of_ble_eq_true rfl) ?_
  refine e_aload_0 dX3_addRule_27 rfl ?_
  refine e_iload_4 dX3_addRule_28 rfl ?_
  refine e_callV dX3_addRule_30 rfl csX3_130 (s_rqOrNone_ok hf hoc hoc8 hb) rfl rfl ps_0 (by decide) (by decide) ⟨Nat.le_of_ble_eq_true rfl, Nat.le_of_ble_eq_true rfl⟩ ⟨Nat.le_of_ble_eq_true rfl, Nat.le_of_ble_eq_true rfl⟩ rfl rfl (Nat.le_of_ble_eq_true rfl) ?_
  refine e_aload_0 dX3_addRule_33 rfl ?_
  refine e_iload_5 dX3_addRule_34 rfl ?_
  refine e_callV dX3_addRule_36 rfl csX3_130 (s_rqOrNone_ok hf hoc hoc8 hc) rfl rfl ps_0 (by decide) (by decide) ⟨Nat.le_of_ble_eq_true rfl, Nat.le_of_ble_eq_true rfl⟩ ⟨Nat.le_of_ble_eq_true rfl, Nat.le_of_ble_eq_true rfl⟩ rfl rfl (Nat.le_of_ble_eq_true rfl) ?_
  rcases hac with rfl | rfl
  · have hac : nI 97 = nI 97 ∨ nI 97 = nI 100 := Or.inl rfl
    refine e_iload_2 dX3_addRule_39 rfl ?_
    refine e_bipush (v := nI 97) dX3_addRule_40 rfl bc_97 ?_
    refine e_nc_eq_t (tgt := 61) dX3_addRule_42 (by decide) (by omega) (by omega) rfl ?_
    refine e_iload_6 dX3_addRule_61 rfl ?_
    refine e_callS dX3_addRule_63 rfl csX3_135 (s_requireOwner_ok hf how) rfl rfl ⟨Nat.le_of_ble_eq_true rfl, Nat.le_of_ble_eq_true rfl⟩ ⟨Nat.le_of_ble_eq_true rfl, Nat.le_of_ble_eq_true rfl⟩ rfl rfl (Nat.le_of_ble_eq_true rfl) ?_
    refine e_aload_0 dX3_addRule_66 rfl ?_
    refine e_getI dX3_addRule_67 rfl lkX3_116 rfl ps_0 (by decide) (by decide) ?_
    refine e_topi (nI rc) hrc ?_
    refine e_bipush (v := nI 8) dX3_addRule_70 rfl bc_8 ?_
    refine e_nc_lt_t (tgt := 85) dX3_addRule_72 (by decide) (by omega) (by omega) hlt ?_
    refine e_aload_0 dX3_addRule_85 rfl ?_
    refine e_getR dX3_addRule_86 rfl lkX3_17 rfl ps_0 (by decide) (by decide) (mr_of hmr rfl) ?_
    refine e_aload_0 dX3_addRule_89 rfl ?_
    refine e_getI dX3_addRule_90 rfl lkX3_116 rfl ps_0 (by decide) (by decide) ?_
    refine e_topi (nI rc) hrc ?_
    refine e_aald dX3_addRule_93 rfl ps_2 (by decide) (by decide) (by decide) rfl (by omega) (mr_of hmr (mr_order _ _)) ?_
    refine e_astore_7 dX3_addRule_94 rfl (Nat.le_of_ble_eq_true rfl) rfl ?_
    refine e_aload_7 dX3_addRule_96 rfl ?_
    refine e_aload_0 dX3_addRule_98 rfl ?_
    refine e_getI dX3_addRule_99 rfl lkX3_140 rfl ps_0 (by decide) (by decide) ?_
    refine e_topi (nI g) hg ?_
    refine e_iload_2 dX3_addRule_102 rfl ?_
    refine e_iload_6 dX3_addRule_103 rfl ?_
    refine e_aload_0 dX3_addRule_105 rfl ?_
    refine e_getI dX3_addRule_106 rfl lkX3_143 rfl ps_0 (by decide) (by decide) ?_
    refine e_callN dX3_addRule_109 rfl csX3_146 (s_begin hf hj (ch_ok hac).1 (ch_ok hac).2) rfl rfl (ps_R (hod _ hlt)) (by decide) (lt_RU (hod _ hlt)) ⟨Nat.le_of_ble_eq_true rfl, Nat.le_of_ble_eq_true rfl⟩ ⟨Nat.le_of_ble_eq_true rfl, Nat.le_of_ble_eq_true rfl⟩ rfl rfl (Nat.le_of_ble_eq_true rfl) ?_
    refine e_aload_7 dX3_addRule_112 rfl ?_
    refine e_getR dX3_addRule_114 rfl lkX3_119 rfl (ps_R (hod _ hlt)) (by decide) (lt_RU (hod _ hlt)) (mr_of hmr (mr_R8 _ (hod _ hlt))) ?_
    refine e_iconst (v := nI 0) dX3_addRule_117 rfl ic_0 ?_
    refine e_iload_3 dX3_addRule_118 rfl ?_
    refine e_iast dX3_addRule_119 rfl (ps_B (hod _ hlt)) (lt_RB (hod _ hlt)) rfl (by omega) ?_
    refine e_aload_7 dX3_addRule_120 rfl ?_
    refine e_getR dX3_addRule_122 rfl lkX3_119 rfl (ps_R (hod _ hlt)) (by decide) (lt_RU (hod _ hlt)) (mr_of hmr (mr_R8 _ (hod _ hlt))) ?_
    refine e_iconst (v := nI 1) dX3_addRule_125 rfl ic_1 ?_
    refine e_iload_4 dX3_addRule_126 rfl ?_
    refine e_iast dX3_addRule_128 rfl (ps_B (hod _ hlt)) (lt_RB (hod _ hlt)) rfl (by omega) ?_
    refine e_aload_7 dX3_addRule_129 rfl ?_
    refine e_getR dX3_addRule_131 rfl lkX3_119 rfl (ps_R (hod _ hlt)) (by decide) (lt_RU (hod _ hlt)) (mr_of hmr (mr_R8 _ (hod _ hlt))) ?_
    refine e_iconst (v := nI 2) dX3_addRule_134 rfl ic_2 ?_
    refine e_iload_5 dX3_addRule_135 rfl ?_
    refine e_iast dX3_addRule_137 rfl (ps_B (hod _ hlt)) (lt_RB (hod _ hlt)) rfl (by omega) ?_
    refine e_aload_0 dX3_addRule_138 rfl ?_
    refine e_dup dX3_addRule_139 rfl rfl ?_
    refine e_getI dX3_addRule_140 rfl lkX3_140 rfl ps_0 (by decide) (by decide) ?_
    refine e_topi (nI g) (show (nrM M (od rc) (nI g) (nI 97) (nI ow) (M.1 0 5) a b c).1 0 4 = nI g from (nrM_no (by omega) (by omega)).trans hg) ?_
    refine e_iconst (v := nI 1) dX3_addRule_143 rfl ic_1 ?_
    refine e_iadd dX3_addRule_144 rfl ?_
    refine e_topi (nI (g + 1)) (nI_add _ _) ?_
    refine e_putI dX3_addRule_145 rfl lkX3_140 rfl rfl rfl ps_0 (by decide) (by decide) ?_
    refine e_aload_0 dX3_addRule_148 rfl ?_
    refine e_dup dX3_addRule_149 rfl rfl ?_
    refine e_getI dX3_addRule_150 rfl lkX3_116 rfl ps_0 (by decide) (by decide) ?_
    refine e_topi (nI rc) (show pm2 (nrM M (od rc) (nI g) (nI 97) (nI ow) (M.1 0 5) a b c).1 0 4 (nI (g + 1)) 0 3 = nI rc from (pm2_k (by decide)).trans ((nrM_no (by omega) (by omega)).trans hrc)) ?_
    refine e_iconst (v := nI 1) dX3_addRule_153 rfl ic_1 ?_
    refine e_iadd dX3_addRule_154 rfl ?_
    refine e_topi (nI (rc + 1)) (nI_add _ _) ?_
    refine e_putI dX3_addRule_155 rfl lkX3_116 rfl rfl rfl ps_0 (by decide) (by decide) ?_
    refine e_aload_0 dX3_addRule_158 rfl ?_
    refine e_aload_0 dX3_addRule_159 rfl ?_
    refine e_getI dX3_addRule_160 rfl lkX3_116 rfl ps_0 (by decide) (by decide) ?_
    refine e_topi (nI (rc + 1)) anM_rc ?_
    refine e_iconst (v := nI 1) dX3_addRule_163 rfl ic_1 ?_
    refine e_isub dX3_addRule_164 rfl ?_
    refine e_topi (nI rc) (pk_sub (show 1 ≤ rc + 1 by omega)) ?_
    refine e_iload_1 dX3_addRule_165 rfl ?_
    refine e_callV dX3_addRule_166 rfl csX3_150 (s_shift (M := (anM M (od rc) rc g (nI 97) (nI ow) (M.1 0 5) a b c)) hf hmr hod hlt (show p < 8 by omega)) rfl rfl ps_0 (by decide) (by decide) ⟨Nat.le_of_ble_eq_true rfl, Nat.le_of_ble_eq_true rfl⟩ ⟨Nat.le_of_ble_eq_true rfl, Nat.le_of_ble_eq_true rfl⟩ rfl rfl (Nat.le_of_ble_eq_true rfl) ?_
    refine e_aload_0 dX3_addRule_169 rfl ?_
    refine e_callV dX3_addRule_170 rfl csX3_70 (s_updateMatching (M := (odM (anM M (od rc) rc g (nI 97) (nI ow) (M.1 0 5) a b c) (shO od rc p))) hf rfl hod2 q1 q2 (by omega) q3) rfl rfl ps_0 (by decide) (by decide) ⟨Nat.le_of_ble_eq_true rfl, Nat.le_of_ble_eq_true rfl⟩ ⟨Nat.le_of_ble_eq_true rfl, Nat.le_of_ble_eq_true rfl⟩ rfl rfl (Nat.le_of_ble_eq_true rfl) ?_
    refine e_aload_7 dX3_addRule_173 rfl ?_
    refine e_getI dX3_addRule_175 rfl lkX3_153 rfl (ps_R (hod _ hlt)) (by decide) (lt_RU (hod _ hlt)) ?_
    refine e_topi (nI g) ((umM_no _ (Or.inl (by omega))).trans anM_0) ?_
    exact e_iret dX3_addRule_178 rfl rfl (Nat.le_of_ble_eq_true rfl) (Nat.le_of_ble_eq_true rfl) rfl rfl
  · have hac : nI 100 = nI 97 ∨ nI 100 = nI 100 := Or.inr rfl
    refine e_iload_2 dX3_addRule_39 rfl ?_
    refine e_bipush (v := nI 97) dX3_addRule_40 rfl bc_97 ?_
    refine e_nc_eq_f dX3_addRule_42 rfl ⟨61, by decide⟩ (by omega) (by omega) (by decide) ?_
    refine e_iload_2 dX3_addRule_45 rfl ?_
    refine e_bipush (v := nI 100) dX3_addRule_46 rfl bc_100 ?_
    refine e_nc_eq_t (tgt := 61) dX3_addRule_48 (by decide) (by omega) (by omega) rfl ?_
    refine e_iload_6 dX3_addRule_61 rfl ?_
    refine e_callS dX3_addRule_63 rfl csX3_135 (s_requireOwner_ok hf how) rfl rfl ⟨Nat.le_of_ble_eq_true rfl, Nat.le_of_ble_eq_true rfl⟩ ⟨Nat.le_of_ble_eq_true rfl, Nat.le_of_ble_eq_true rfl⟩ rfl rfl (Nat.le_of_ble_eq_true rfl) ?_
    refine e_aload_0 dX3_addRule_66 rfl ?_
    refine e_getI dX3_addRule_67 rfl lkX3_116 rfl ps_0 (by decide) (by decide) ?_
    refine e_topi (nI rc) hrc ?_
    refine e_bipush (v := nI 8) dX3_addRule_70 rfl bc_8 ?_
    refine e_nc_lt_t (tgt := 85) dX3_addRule_72 (by decide) (by omega) (by omega) hlt ?_
    refine e_aload_0 dX3_addRule_85 rfl ?_
    refine e_getR dX3_addRule_86 rfl lkX3_17 rfl ps_0 (by decide) (by decide) (mr_of hmr rfl) ?_
    refine e_aload_0 dX3_addRule_89 rfl ?_
    refine e_getI dX3_addRule_90 rfl lkX3_116 rfl ps_0 (by decide) (by decide) ?_
    refine e_topi (nI rc) hrc ?_
    refine e_aald dX3_addRule_93 rfl ps_2 (by decide) (by decide) (by decide) rfl (by omega) (mr_of hmr (mr_order _ _)) ?_
    refine e_astore_7 dX3_addRule_94 rfl (Nat.le_of_ble_eq_true rfl) rfl ?_
    refine e_aload_7 dX3_addRule_96 rfl ?_
    refine e_aload_0 dX3_addRule_98 rfl ?_
    refine e_getI dX3_addRule_99 rfl lkX3_140 rfl ps_0 (by decide) (by decide) ?_
    refine e_topi (nI g) hg ?_
    refine e_iload_2 dX3_addRule_102 rfl ?_
    refine e_iload_6 dX3_addRule_103 rfl ?_
    refine e_aload_0 dX3_addRule_105 rfl ?_
    refine e_getI dX3_addRule_106 rfl lkX3_143 rfl ps_0 (by decide) (by decide) ?_
    refine e_callN dX3_addRule_109 rfl csX3_146 (s_begin hf hj (ch_ok hac).1 (ch_ok hac).2) rfl rfl (ps_R (hod _ hlt)) (by decide) (lt_RU (hod _ hlt)) ⟨Nat.le_of_ble_eq_true rfl, Nat.le_of_ble_eq_true rfl⟩ ⟨Nat.le_of_ble_eq_true rfl, Nat.le_of_ble_eq_true rfl⟩ rfl rfl (Nat.le_of_ble_eq_true rfl) ?_
    refine e_aload_7 dX3_addRule_112 rfl ?_
    refine e_getR dX3_addRule_114 rfl lkX3_119 rfl (ps_R (hod _ hlt)) (by decide) (lt_RU (hod _ hlt)) (mr_of hmr (mr_R8 _ (hod _ hlt))) ?_
    refine e_iconst (v := nI 0) dX3_addRule_117 rfl ic_0 ?_
    refine e_iload_3 dX3_addRule_118 rfl ?_
    refine e_iast dX3_addRule_119 rfl (ps_B (hod _ hlt)) (lt_RB (hod _ hlt)) rfl (by omega) ?_
    refine e_aload_7 dX3_addRule_120 rfl ?_
    refine e_getR dX3_addRule_122 rfl lkX3_119 rfl (ps_R (hod _ hlt)) (by decide) (lt_RU (hod _ hlt)) (mr_of hmr (mr_R8 _ (hod _ hlt))) ?_
    refine e_iconst (v := nI 1) dX3_addRule_125 rfl ic_1 ?_
    refine e_iload_4 dX3_addRule_126 rfl ?_
    refine e_iast dX3_addRule_128 rfl (ps_B (hod _ hlt)) (lt_RB (hod _ hlt)) rfl (by omega) ?_
    refine e_aload_7 dX3_addRule_129 rfl ?_
    refine e_getR dX3_addRule_131 rfl lkX3_119 rfl (ps_R (hod _ hlt)) (by decide) (lt_RU (hod _ hlt)) (mr_of hmr (mr_R8 _ (hod _ hlt))) ?_
    refine e_iconst (v := nI 2) dX3_addRule_134 rfl ic_2 ?_
    refine e_iload_5 dX3_addRule_135 rfl ?_
    refine e_iast dX3_addRule_137 rfl (ps_B (hod _ hlt)) (lt_RB (hod _ hlt)) rfl (by omega) ?_
    refine e_aload_0 dX3_addRule_138 rfl ?_
    refine e_dup dX3_addRule_139 rfl rfl ?_
    refine e_getI dX3_addRule_140 rfl lkX3_140 rfl ps_0 (by decide) (by decide) ?_
    refine e_topi (nI g) (show (nrM M (od rc) (nI g) (nI 100) (nI ow) (M.1 0 5) a b c).1 0 4 = nI g from (nrM_no (by omega) (by omega)).trans hg) ?_
    refine e_iconst (v := nI 1) dX3_addRule_143 rfl ic_1 ?_
    refine e_iadd dX3_addRule_144 rfl ?_
    refine e_topi (nI (g + 1)) (nI_add _ _) ?_
    refine e_putI dX3_addRule_145 rfl lkX3_140 rfl rfl rfl ps_0 (by decide) (by decide) ?_
    refine e_aload_0 dX3_addRule_148 rfl ?_
    refine e_dup dX3_addRule_149 rfl rfl ?_
    refine e_getI dX3_addRule_150 rfl lkX3_116 rfl ps_0 (by decide) (by decide) ?_
    refine e_topi (nI rc) (show pm2 (nrM M (od rc) (nI g) (nI 100) (nI ow) (M.1 0 5) a b c).1 0 4 (nI (g + 1)) 0 3 = nI rc from (pm2_k (by decide)).trans ((nrM_no (by omega) (by omega)).trans hrc)) ?_
    refine e_iconst (v := nI 1) dX3_addRule_153 rfl ic_1 ?_
    refine e_iadd dX3_addRule_154 rfl ?_
    refine e_topi (nI (rc + 1)) (nI_add _ _) ?_
    refine e_putI dX3_addRule_155 rfl lkX3_116 rfl rfl rfl ps_0 (by decide) (by decide) ?_
    refine e_aload_0 dX3_addRule_158 rfl ?_
    refine e_aload_0 dX3_addRule_159 rfl ?_
    refine e_getI dX3_addRule_160 rfl lkX3_116 rfl ps_0 (by decide) (by decide) ?_
    refine e_topi (nI (rc + 1)) anM_rc ?_
    refine e_iconst (v := nI 1) dX3_addRule_163 rfl ic_1 ?_
    refine e_isub dX3_addRule_164 rfl ?_
    refine e_topi (nI rc) (pk_sub (show 1 ≤ rc + 1 by omega)) ?_
    refine e_iload_1 dX3_addRule_165 rfl ?_
    refine e_callV dX3_addRule_166 rfl csX3_150 (s_shift (M := (anM M (od rc) rc g (nI 100) (nI ow) (M.1 0 5) a b c)) hf hmr hod hlt (show p < 8 by omega)) rfl rfl ps_0 (by decide) (by decide) ⟨Nat.le_of_ble_eq_true rfl, Nat.le_of_ble_eq_true rfl⟩ ⟨Nat.le_of_ble_eq_true rfl, Nat.le_of_ble_eq_true rfl⟩ rfl rfl (Nat.le_of_ble_eq_true rfl) ?_
    refine e_aload_0 dX3_addRule_169 rfl ?_
    refine e_callV dX3_addRule_170 rfl csX3_70 (s_updateMatching (M := (odM (anM M (od rc) rc g (nI 100) (nI ow) (M.1 0 5) a b c) (shO od rc p))) hf rfl hod2 q1 q2 (by omega) q3) rfl rfl ps_0 (by decide) (by decide) ⟨Nat.le_of_ble_eq_true rfl, Nat.le_of_ble_eq_true rfl⟩ ⟨Nat.le_of_ble_eq_true rfl, Nat.le_of_ble_eq_true rfl⟩ rfl rfl (Nat.le_of_ble_eq_true rfl) ?_
    refine e_aload_7 dX3_addRule_173 rfl ?_
    refine e_getI dX3_addRule_175 rfl lkX3_153 rfl (ps_R (hod _ hlt)) (by decide) (lt_RU (hod _ hlt)) ?_
    refine e_topi (nI g) ((umM_no _ (Or.inl (by omega))).trans anM_0) ?_
    exact e_iret dX3_addRule_178 rfl rfl (Nat.le_of_ble_eq_true rfl) (Nat.le_of_ble_eq_true rfl) rfl rfl
theorem s_addRule_no1 {l : Launch} (hf : l.stackTraces = false) {M : pmM} {rc : Nat} (hrc : M.1 0 3 = nI rc) (h8 : rc ≤ 8) {x : Int32} (hx : ¬ vp_in x (rc + 1)) {y1 y2 y3 y4 y5 : Int32} : Sp l kX3_addRule 64 11 6 36 [.ref 0, .int x, .int y1, .int y2, .int y3, .int y4, .int y5] M (.inr "java/lang/IndexOutOfBoundsException") M := by
  refine sp_of hf (by decide +kernel) (Nat.le_of_ble_eq_true rfl) (by intro v hv; simp at hv; rcases hv with rfl | rfl | rfl | rfl | rfl | rfl | rfl <;> rfl) rfl ?_
  refine e_iload_1 dX3_addRule_0 rfl ?_
  refine e_if_lt (tgt := 12) dX3_addRule_1 (by decide) rfl (fun hc1 => ?_) (fun hc1 => ?_)
  · exact e_throw dX3_addRule_12 dX3_addRule_15 dX3_addRule_16 dX3_addRule_18 dX3_addRule_21 th_125_127_129 rfl ⟨Nat.le_of_ble_eq_true rfl, Nat.le_of_ble_eq_true rfl⟩ (Nat.le_of_ble_eq_true rfl) ⟨Nat.le_of_ble_eq_true rfl, Nat.le_of_ble_eq_true rfl⟩ ⟨Nat.le_of_ble_eq_true rfl, Nat.le_of_ble_eq_true rfl⟩ rfl
  · refine e_iload_1 dX3_addRule_4 rfl ?_
    refine e_aload_0 dX3_addRule_5 rfl ?_
    refine e_getI dX3_addRule_6 rfl lkX3_116 rfl ps_0 (by decide) (by decide) ?_
    refine e_topi (nI rc) hrc ?_
    refine e_ic_le_f dX3_addRule_9 rfl ⟨22, by decide⟩ (by
        intro q
        obtain ⟨j, hj, rfl⟩ := nI_of hc1
        exact hx (vp_in_nI (Nat.lt_succ_of_le ((nI_leI hj (by omega)).mp q)) (by omega))) ?_
    exact e_throw dX3_addRule_12 dX3_addRule_15 dX3_addRule_16 dX3_addRule_18 dX3_addRule_21 th_125_127_129 rfl ⟨Nat.le_of_ble_eq_true rfl, Nat.le_of_ble_eq_true rfl⟩ (Nat.le_of_ble_eq_true rfl) ⟨Nat.le_of_ble_eq_true rfl, Nat.le_of_ble_eq_true rfl⟩ ⟨Nat.le_of_ble_eq_true rfl, Nat.le_of_ble_eq_true rfl⟩ rfl
theorem s_addRule_no2 {l : Launch} (hf : l.stackTraces = false) {M : pmM} {rc : Nat} (hrc : M.1 0 3 = nI rc) (h8 : rc ≤ 8) {oc : Nat} (hoc : M.1 0 1 = nI oc) (hoc8 : oc ≤ 8) {p : Nat} (hp : p ≤ rc) {a b c : Int32} (hx : ¬ (obOk oc a ∧ obOk oc b ∧ obOk oc c)) {y1 y2 : Int32} : Sp l kX3_addRule 64 11 6 36 [.ref 0, .int (nI p), .int y1, .int a, .int b, .int c, .int y2] M (.inr "java/lang/IndexOutOfBoundsException") M := by
  refine sp_of hf (by decide +kernel) (Nat.le_of_ble_eq_true rfl) (by intro v hv; simp at hv; rcases hv with rfl | rfl | rfl | rfl | rfl | rfl | rfl <;> rfl) rfl ?_
  by_cases ha : obOk oc a
  · by_cases hb : obOk oc b
    · have hc : ¬ obOk oc c := fun h => hx ⟨ha, hb, h⟩
      refine e_iload_1 dX3_addRule_0 rfl ?_
      refine e_if_lt_f dX3_addRule_1 rfl ⟨12, by decide⟩ (nI_pos (by omega)) ?_
      refine e_iload_1 dX3_addRule_4 rfl ?_
      refine e_aload_0 dX3_addRule_5 rfl ?_
      refine e_getI dX3_addRule_6 rfl lkX3_116 rfl ps_0 (by decide) (by decide) ?_
      refine e_topi (nI rc) hrc ?_
      refine e_nc_le_t (tgt := 22) dX3_addRule_9 (by decide) (by omega) (by omega) hp ?_
      refine e_aload_0 dX3_addRule_22 rfl ?_
      refine e_iload_3 dX3_addRule_23 rfl ?_
      refine e_callV dX3_addRule_24 rfl csX3_130 (s_rqOrNone_ok hf hoc hoc8 ha) rfl rfl ps_0 (by decide) (by decide) ⟨Nat.le_of_ble_eq_true rfl, Nat.le_of_ble_eq_true rfl⟩ ⟨Nat.le_of_ble_eq_true rfl, Nat.le_of_ble_eq_true rfl⟩ rfl rfl (Nat.le_of_ble_eq_true rfl) ?_
      refine e_aload_0 dX3_addRule_27 rfl ?_
      refine e_iload_4 dX3_addRule_28 rfl ?_
      refine e_callV dX3_addRule_30 rfl csX3_130 (s_rqOrNone_ok hf hoc hoc8 hb) rfl rfl ps_0 (by decide) (by decide) ⟨Nat.le_of_ble_eq_true rfl, Nat.le_of_ble_eq_true rfl⟩ ⟨Nat.le_of_ble_eq_true rfl, Nat.le_of_ble_eq_true rfl⟩ rfl rfl (Nat.le_of_ble_eq_true rfl) ?_
      refine e_aload_0 dX3_addRule_33 rfl ?_
      refine e_iload_5 dX3_addRule_34 rfl ?_
      exact e_callV_x dX3_addRule_36 csX3_130 (s_rqOrNone_no hf hoc hoc8 hc) rfl rfl ps_0 (by decide) (by decide) ⟨Nat.le_of_ble_eq_true rfl, Nat.le_of_ble_eq_true rfl⟩ ⟨Nat.le_of_ble_eq_true rfl, Nat.le_of_ble_eq_true rfl⟩ (Nat.le_of_ble_eq_true rfl) rfl ⟨Nat.le_of_ble_eq_true rfl, Nat.le_of_ble_eq_true rfl⟩
    · refine e_iload_1 dX3_addRule_0 rfl ?_
      refine e_if_lt_f dX3_addRule_1 rfl ⟨12, by decide⟩ (nI_pos (by omega)) ?_
      refine e_iload_1 dX3_addRule_4 rfl ?_
      refine e_aload_0 dX3_addRule_5 rfl ?_
      refine e_getI dX3_addRule_6 rfl lkX3_116 rfl ps_0 (by decide) (by decide) ?_
      refine e_topi (nI rc) hrc ?_
      refine e_nc_le_t (tgt := 22) dX3_addRule_9 (by decide) (by omega) (by omega) hp ?_
      refine e_aload_0 dX3_addRule_22 rfl ?_
      refine e_iload_3 dX3_addRule_23 rfl ?_
      refine e_callV dX3_addRule_24 rfl csX3_130 (s_rqOrNone_ok hf hoc hoc8 ha) rfl rfl ps_0 (by decide) (by decide) ⟨Nat.le_of_ble_eq_true rfl, Nat.le_of_ble_eq_true rfl⟩ ⟨Nat.le_of_ble_eq_true rfl, Nat.le_of_ble_eq_true rfl⟩ rfl rfl (Nat.le_of_ble_eq_true rfl) ?_
      refine e_aload_0 dX3_addRule_27 rfl ?_
      refine e_iload_4 dX3_addRule_28 rfl ?_
      exact e_callV_x dX3_addRule_30 csX3_130 (s_rqOrNone_no hf hoc hoc8 hb) rfl rfl ps_0 (by decide) (by decide) ⟨Nat.le_of_ble_eq_true rfl, Nat.le_of_ble_eq_true rfl⟩ ⟨Nat.le_of_ble_eq_true rfl, Nat.le_of_ble_eq_true rfl⟩ (Nat.le_of_ble_eq_true rfl) rfl ⟨Nat.le_of_ble_eq_true rfl, Nat.le_of_ble_eq_true rfl⟩
  · refine e_iload_1 dX3_addRule_0 rfl ?_
    refine e_if_lt_f dX3_addRule_1 rfl ⟨12, by decide⟩ (nI_pos (by omega)) ?_
    refine e_iload_1 dX3_addRule_4 rfl ?_
    refine e_aload_0 dX3_addRule_5 rfl ?_
    refine e_getI dX3_addRule_6 rfl lkX3_116 rfl ps_0 (by decide) (by decide) ?_
    refine e_topi (nI rc) hrc ?_
    refine e_nc_le_t (tgt := 22) dX3_addRule_9 (by decide) (by omega) (by omega) hp ?_
    refine e_aload_0 dX3_addRule_22 rfl ?_
    refine e_iload_3 dX3_addRule_23 rfl ?_
    exact e_callV_x dX3_addRule_24 csX3_130 (s_rqOrNone_no hf hoc hoc8 ha) rfl rfl ps_0 (by decide) (by decide) ⟨Nat.le_of_ble_eq_true rfl, Nat.le_of_ble_eq_true rfl⟩ ⟨Nat.le_of_ble_eq_true rfl, Nat.le_of_ble_eq_true rfl⟩ (Nat.le_of_ble_eq_true rfl) rfl ⟨Nat.le_of_ble_eq_true rfl, Nat.le_of_ble_eq_true rfl⟩
theorem s_addRule_no3 {l : Launch} (hf : l.stackTraces = false) {M : pmM} {rc : Nat} (hrc : M.1 0 3 = nI rc) (h8 : rc ≤ 8) {oc : Nat} (hoc : M.1 0 1 = nI oc) (hoc8 : oc ≤ 8) {p : Nat} (hp : p ≤ rc) {a b c : Int32} (ha : obOk oc a) (hb : obOk oc b) (hc : obOk oc c) {ac : Int32} (h1 : ac ≠ nI 97) (h2 : ac ≠ nI 100) {y2 : Int32} : Sp l kX3_addRule 64 11 6 36 [.ref 0, .int (nI p), .int ac, .int a, .int b, .int c, .int y2] M (.inr "java/lang/IllegalArgumentException") M := by
  refine sp_of hf (by decide +kernel) (Nat.le_of_ble_eq_true rfl) (by intro v hv; simp at hv; rcases hv with rfl | rfl | rfl | rfl | rfl | rfl | rfl <;> rfl) rfl ?_
  refine e_iload_1 dX3_addRule_0 rfl ?_
  refine e_if_lt_f dX3_addRule_1 rfl ⟨12, by decide⟩ (nI_pos (by omega)) ?_
  refine e_iload_1 dX3_addRule_4 rfl ?_
  refine e_aload_0 dX3_addRule_5 rfl ?_
  refine e_getI dX3_addRule_6 rfl lkX3_116 rfl ps_0 (by decide) (by decide) ?_
  refine e_topi (nI rc) hrc ?_
  refine e_nc_le_t (tgt := 22) dX3_addRule_9 (by decide) (by omega) (by omega) hp ?_
  refine e_aload_0 dX3_addRule_22 rfl ?_
  refine e_iload_3 dX3_addRule_23 rfl ?_
  refine e_callV dX3_addRule_24 rfl csX3_130 (s_rqOrNone_ok hf hoc hoc8 ha) rfl rfl ps_0 (by decide) (by decide) ⟨Nat.le_of_ble_eq_true rfl, Nat.le_of_ble_eq_true rfl⟩ ⟨Nat.le_of_ble_eq_true rfl, Nat.le_of_ble_eq_true rfl⟩ rfl rfl (Nat.le_of_ble_eq_true rfl) ?_
  refine e_aload_0 dX3_addRule_27 rfl ?_
  refine e_iload_4 dX3_addRule_28 rfl ?_
  refine e_callV dX3_addRule_30 rfl csX3_130 (s_rqOrNone_ok hf hoc hoc8 hb) rfl rfl ps_0 (by decide) (by decide) ⟨Nat.le_of_ble_eq_true rfl, Nat.le_of_ble_eq_true rfl⟩ ⟨Nat.le_of_ble_eq_true rfl, Nat.le_of_ble_eq_true rfl⟩ rfl rfl (Nat.le_of_ble_eq_true rfl) ?_
  refine e_aload_0 dX3_addRule_33 rfl ?_
  refine e_iload_5 dX3_addRule_34 rfl ?_
  refine e_callV dX3_addRule_36 rfl csX3_130 (s_rqOrNone_ok hf hoc hoc8 hc) rfl rfl ps_0 (by decide) (by decide) ⟨Nat.le_of_ble_eq_true rfl, Nat.le_of_ble_eq_true rfl⟩ ⟨Nat.le_of_ble_eq_true rfl, Nat.le_of_ble_eq_true rfl⟩ rfl rfl (Nat.le_of_ble_eq_true rfl) ?_
  refine e_iload_2 dX3_addRule_39 rfl ?_
  refine e_bipush (v := nI 97) dX3_addRule_40 rfl bc_97 ?_
  refine e_ic_eq_f dX3_addRule_42 rfl ⟨61, by decide⟩ h1 ?_
  refine e_iload_2 dX3_addRule_45 rfl ?_
  refine e_bipush (v := nI 100) dX3_addRule_46 rfl bc_100 ?_
  refine e_ic_eq_f dX3_addRule_48 rfl ⟨61, by decide⟩ h2 ?_
  exact e_throw dX3_addRule_51 dX3_addRule_54 dX3_addRule_55 dX3_addRule_57 dX3_addRule_60 th_82_133_86 rfl ⟨Nat.le_of_ble_eq_true rfl, Nat.le_of_ble_eq_true rfl⟩ (Nat.le_of_ble_eq_true rfl) ⟨Nat.le_of_ble_eq_true rfl, Nat.le_of_ble_eq_true rfl⟩ ⟨Nat.le_of_ble_eq_true rfl, Nat.le_of_ble_eq_true rfl⟩ rfl
theorem s_addRule_no4 {l : Launch} (hf : l.stackTraces = false) {M : pmM} {rc : Nat} (hrc : M.1 0 3 = nI rc) (h8 : rc ≤ 8) {oc : Nat} (hoc : M.1 0 1 = nI oc) (hoc8 : oc ≤ 8) {p : Nat} (hp : p ≤ rc) {a b c : Int32} (ha : obOk oc a) (hb : obOk oc b) (hc : obOk oc c) {ac : Int32} (hac : ac = nI 97 ∨ ac = nI 100) {y2 : Int32} (hx : ¬ vp_in y2 6) : Sp l kX3_addRule 64 11 6 36 [.ref 0, .int (nI p), .int ac, .int a, .int b, .int c, .int y2] M (.inr "java/lang/IllegalArgumentException") M := by
  refine sp_of hf (by decide +kernel) (Nat.le_of_ble_eq_true rfl) (by intro v hv; simp at hv; rcases hv with rfl | rfl | rfl | rfl | rfl | rfl | rfl <;> rfl) rfl ?_
  refine e_iload_1 dX3_addRule_0 rfl ?_
  refine e_if_lt_f dX3_addRule_1 rfl ⟨12, by decide⟩ (nI_pos (by omega)) ?_
  refine e_iload_1 dX3_addRule_4 rfl ?_
  refine e_aload_0 dX3_addRule_5 rfl ?_
  refine e_getI dX3_addRule_6 rfl lkX3_116 rfl ps_0 (by decide) (by decide) ?_
  refine e_topi (nI rc) hrc ?_
  refine e_nc_le_t (tgt := 22) dX3_addRule_9 (by decide) (by omega) (by omega) hp ?_
  refine e_aload_0 dX3_addRule_22 rfl ?_
  refine e_iload_3 dX3_addRule_23 rfl ?_
  refine e_callV dX3_addRule_24 rfl csX3_130 (s_rqOrNone_ok hf hoc hoc8 ha) rfl rfl ps_0 (by decide) (by decide) ⟨Nat.le_of_ble_eq_true rfl, Nat.le_of_ble_eq_true rfl⟩ ⟨Nat.le_of_ble_eq_true rfl, Nat.le_of_ble_eq_true rfl⟩ rfl rfl (Nat.le_of_ble_eq_true rfl) ?_
  refine e_aload_0 dX3_addRule_27 rfl ?_
  refine e_iload_4 dX3_addRule_28 rfl ?_
  refine e_callV dX3_addRule_30 rfl csX3_130 (s_rqOrNone_ok hf hoc hoc8 hb) rfl rfl ps_0 (by decide) (by decide) ⟨Nat.le_of_ble_eq_true rfl, Nat.le_of_ble_eq_true rfl⟩ ⟨Nat.le_of_ble_eq_true rfl, Nat.le_of_ble_eq_true rfl⟩ rfl rfl (Nat.le_of_ble_eq_true rfl) ?_
  refine e_aload_0 dX3_addRule_33 rfl ?_
  refine e_iload_5 dX3_addRule_34 rfl ?_
  refine e_callV dX3_addRule_36 rfl csX3_130 (s_rqOrNone_ok hf hoc hoc8 hc) rfl rfl ps_0 (by decide) (by decide) ⟨Nat.le_of_ble_eq_true rfl, Nat.le_of_ble_eq_true rfl⟩ ⟨Nat.le_of_ble_eq_true rfl, Nat.le_of_ble_eq_true rfl⟩ rfl rfl (Nat.le_of_ble_eq_true rfl) ?_
  rcases hac with rfl | rfl
  · refine e_iload_2 dX3_addRule_39 rfl ?_
    refine e_bipush (v := nI 97) dX3_addRule_40 rfl bc_97 ?_
    refine e_nc_eq_t (tgt := 61) dX3_addRule_42 (by decide) (by omega) (by omega) rfl ?_
    refine e_iload_6 dX3_addRule_61 rfl ?_
    exact e_callS_x dX3_addRule_63 csX3_135 (s_requireOwner_no hf hx) rfl rfl ⟨Nat.le_of_ble_eq_true rfl, Nat.le_of_ble_eq_true rfl⟩ ⟨Nat.le_of_ble_eq_true rfl, Nat.le_of_ble_eq_true rfl⟩ (Nat.le_of_ble_eq_true rfl) rfl ⟨Nat.le_of_ble_eq_true rfl, Nat.le_of_ble_eq_true rfl⟩
  · refine e_iload_2 dX3_addRule_39 rfl ?_
    refine e_bipush (v := nI 97) dX3_addRule_40 rfl bc_97 ?_
    refine e_nc_eq_f dX3_addRule_42 rfl ⟨61, by decide⟩ (by omega) (by omega) (by decide) ?_
    refine e_iload_2 dX3_addRule_45 rfl ?_
    refine e_bipush (v := nI 100) dX3_addRule_46 rfl bc_100 ?_
    refine e_nc_eq_t (tgt := 61) dX3_addRule_48 (by decide) (by omega) (by omega) rfl ?_
    refine e_iload_6 dX3_addRule_61 rfl ?_
    exact e_callS_x dX3_addRule_63 csX3_135 (s_requireOwner_no hf hx) rfl rfl ⟨Nat.le_of_ble_eq_true rfl, Nat.le_of_ble_eq_true rfl⟩ ⟨Nat.le_of_ble_eq_true rfl, Nat.le_of_ble_eq_true rfl⟩ (Nat.le_of_ble_eq_true rfl) rfl ⟨Nat.le_of_ble_eq_true rfl, Nat.le_of_ble_eq_true rfl⟩
theorem s_addRule_no5 {l : Launch} (hf : l.stackTraces = false) {M : pmM} (hrc : M.1 0 3 = nI 8) {oc : Nat} (hoc : M.1 0 1 = nI oc) (hoc8 : oc ≤ 8) {p : Nat} (hp : p ≤ 8) {a b c : Int32} (ha : obOk oc a) (hb : obOk oc b) (hc : obOk oc c) {ac : Int32} (hac : ac = nI 97 ∨ ac = nI 100) {ow : Nat} (how : ow < 6) : Sp l kX3_addRule 64 11 6 36 [.ref 0, .int (nI p), .int ac, .int a, .int b, .int c, .int (nI ow)] M (.inr "java/lang/IllegalStateException") M := by
  refine sp_of hf (by decide +kernel) (Nat.le_of_ble_eq_true rfl) (by intro v hv; simp at hv; rcases hv with rfl | rfl | rfl | rfl | rfl | rfl | rfl <;> rfl) rfl ?_
  refine e_iload_1 dX3_addRule_0 rfl ?_
  refine e_if_lt_f dX3_addRule_1 rfl ⟨12, by decide⟩ (nI_pos (by omega)) ?_
  refine e_iload_1 dX3_addRule_4 rfl ?_
  refine e_aload_0 dX3_addRule_5 rfl ?_
  refine e_getI dX3_addRule_6 rfl lkX3_116 rfl ps_0 (by decide) (by decide) ?_
  refine e_topi (nI 8) hrc ?_
  refine e_nc_le_t (tgt := 22) dX3_addRule_9 (by decide) (by omega) (by omega) hp ?_
  refine e_aload_0 dX3_addRule_22 rfl ?_
  refine e_iload_3 dX3_addRule_23 rfl ?_
  refine e_callV dX3_addRule_24 rfl csX3_130 (s_rqOrNone_ok hf hoc hoc8 ha) rfl rfl ps_0 (by decide) (by decide) ⟨Nat.le_of_ble_eq_true rfl, Nat.le_of_ble_eq_true rfl⟩ ⟨Nat.le_of_ble_eq_true rfl, Nat.le_of_ble_eq_true rfl⟩ rfl rfl (Nat.le_of_ble_eq_true rfl) ?_
  refine e_aload_0 dX3_addRule_27 rfl ?_
  refine e_iload_4 dX3_addRule_28 rfl ?_
  refine e_callV dX3_addRule_30 rfl csX3_130 (s_rqOrNone_ok hf hoc hoc8 hb) rfl rfl ps_0 (by decide) (by decide) ⟨Nat.le_of_ble_eq_true rfl, Nat.le_of_ble_eq_true rfl⟩ ⟨Nat.le_of_ble_eq_true rfl, Nat.le_of_ble_eq_true rfl⟩ rfl rfl (Nat.le_of_ble_eq_true rfl) ?_
  refine e_aload_0 dX3_addRule_33 rfl ?_
  refine e_iload_5 dX3_addRule_34 rfl ?_
  refine e_callV dX3_addRule_36 rfl csX3_130 (s_rqOrNone_ok hf hoc hoc8 hc) rfl rfl ps_0 (by decide) (by decide) ⟨Nat.le_of_ble_eq_true rfl, Nat.le_of_ble_eq_true rfl⟩ ⟨Nat.le_of_ble_eq_true rfl, Nat.le_of_ble_eq_true rfl⟩ rfl rfl (Nat.le_of_ble_eq_true rfl) ?_
  rcases hac with rfl | rfl
  · refine e_iload_2 dX3_addRule_39 rfl ?_
    refine e_bipush (v := nI 97) dX3_addRule_40 rfl bc_97 ?_
    refine e_nc_eq_t (tgt := 61) dX3_addRule_42 (by decide) (by omega) (by omega) rfl ?_
    refine e_iload_6 dX3_addRule_61 rfl ?_
    refine e_callS dX3_addRule_63 rfl csX3_135 (s_requireOwner_ok hf how) rfl rfl ⟨Nat.le_of_ble_eq_true rfl, Nat.le_of_ble_eq_true rfl⟩ ⟨Nat.le_of_ble_eq_true rfl, Nat.le_of_ble_eq_true rfl⟩ rfl rfl (Nat.le_of_ble_eq_true rfl) ?_
    refine e_aload_0 dX3_addRule_66 rfl ?_
    refine e_getI dX3_addRule_67 rfl lkX3_116 rfl ps_0 (by decide) (by decide) ?_
    refine e_topi (nI 8) hrc ?_
    refine e_bipush (v := nI 8) dX3_addRule_70 rfl bc_8 ?_
    refine e_nc_lt_f dX3_addRule_72 rfl ⟨85, by decide⟩ (by omega) (by omega) (by decide) ?_
    exact e_throw dX3_addRule_75 dX3_addRule_78 dX3_addRule_79 dX3_addRule_81 dX3_addRule_84 th_43_138_47 rfl ⟨Nat.le_of_ble_eq_true rfl, Nat.le_of_ble_eq_true rfl⟩ (Nat.le_of_ble_eq_true rfl) ⟨Nat.le_of_ble_eq_true rfl, Nat.le_of_ble_eq_true rfl⟩ ⟨Nat.le_of_ble_eq_true rfl, Nat.le_of_ble_eq_true rfl⟩ rfl
  · refine e_iload_2 dX3_addRule_39 rfl ?_
    refine e_bipush (v := nI 97) dX3_addRule_40 rfl bc_97 ?_
    refine e_nc_eq_f dX3_addRule_42 rfl ⟨61, by decide⟩ (by omega) (by omega) (by decide) ?_
    refine e_iload_2 dX3_addRule_45 rfl ?_
    refine e_bipush (v := nI 100) dX3_addRule_46 rfl bc_100 ?_
    refine e_nc_eq_t (tgt := 61) dX3_addRule_48 (by decide) (by omega) (by omega) rfl ?_
    refine e_iload_6 dX3_addRule_61 rfl ?_
    refine e_callS dX3_addRule_63 rfl csX3_135 (s_requireOwner_ok hf how) rfl rfl ⟨Nat.le_of_ble_eq_true rfl, Nat.le_of_ble_eq_true rfl⟩ ⟨Nat.le_of_ble_eq_true rfl, Nat.le_of_ble_eq_true rfl⟩ rfl rfl (Nat.le_of_ble_eq_true rfl) ?_
    refine e_aload_0 dX3_addRule_66 rfl ?_
    refine e_getI dX3_addRule_67 rfl lkX3_116 rfl ps_0 (by decide) (by decide) ?_
    refine e_topi (nI 8) hrc ?_
    refine e_bipush (v := nI 8) dX3_addRule_70 rfl bc_8 ?_
    refine e_nc_lt_f dX3_addRule_72 rfl ⟨85, by decide⟩ (by omega) (by omega) (by decide) ?_
    exact e_throw dX3_addRule_75 dX3_addRule_78 dX3_addRule_79 dX3_addRule_81 dX3_addRule_84 th_43_138_47 rfl ⟨Nat.le_of_ble_eq_true rfl, Nat.le_of_ble_eq_true rfl⟩ (Nat.le_of_ble_eq_true rfl) ⟨Nat.le_of_ble_eq_true rfl, Nat.le_of_ble_eq_true rfl⟩ ⟨Nat.le_of_ble_eq_true rfl, Nat.le_of_ble_eq_true rfl⟩ rfl
def rmM (M : pmM) (od : Nat → Nat) (rc p : Nat) : pmM := (pm2 M.1 0 3 (nI (rc - 1)), mrC (shO od p (rc - 1)), M.2.2)
theorem s_removeRule_ok {l : Launch} (hf : l.stackTraces = false) {M : pmM} {od : Nat → Nat} (hmr : M.2.1 = mrC od) (hod : ∀ p, p < 8 → od p < 8) {rc : Nat} (hrc : M.1 0 3 = nI rc) (h8 : rc ≤ 8) {x : Int32} {p : Nat} (hp : p < rc) (hx : M.1 (31 + 3 * od p) 0 = x) (hn : ∀ q, q < p → M.1 (31 + 3 * od q) 0 ≠ x) : Sp l kX3_removeRule 64 14 1 6 [.ref 0, .int x] M (.inl (some (.int (crE M od rc p)))) (rmM M od rc p) := by
  refine sp_of hf (by decide +kernel) (Nat.le_of_ble_eq_true rfl) (by intro v hv; simp at hv; rcases hv with rfl | rfl <;> rfl) rfl ?_
  refine e_aload_0 dX3_removeRule_0 rfl ?_
  refine e_iload_1 dX3_removeRule_1 rfl ?_
  refine e_callV dX3_removeRule_2 rfl csX3_156 (s_requireRule_ok hf hmr hod hrc h8 hp hx hn) rfl rfl ps_0 (by decide) (by decide) ⟨Nat.le_of_ble_eq_true rfl, Nat.le_of_ble_eq_true rfl⟩ ⟨Nat.le_of_ble_eq_true rfl, Nat.le_of_ble_eq_true rfl⟩ rfl rfl (Nat.le_of_ble_eq_true rfl) ?_
  refine e_istore_2 dX3_removeRule_5 rfl (Nat.le_of_ble_eq_true rfl) rfl ?_
  refine e_aload_0 dX3_removeRule_6 rfl ?_
  refine e_iload_2 dX3_removeRule_7 rfl ?_
  refine e_callV dX3_removeRule_8 rfl csX3_159 (s_changedByRemoval hf hmr hod hrc h8 hp) rfl rfl ps_0 (by decide) (by decide) ⟨Nat.le_of_ble_eq_true rfl, Nat.le_of_ble_eq_true rfl⟩ ⟨Nat.le_of_ble_eq_true rfl, Nat.le_of_ble_eq_true rfl⟩ rfl rfl (Nat.le_of_ble_eq_true rfl) ?_
  refine e_istore_3 dX3_removeRule_11 rfl (Nat.le_of_ble_eq_true rfl) rfl ?_
  refine e_aload_0 dX3_removeRule_12 rfl ?_
  refine e_iload_2 dX3_removeRule_13 rfl ?_
  refine e_aload_0 dX3_removeRule_14 rfl ?_
  refine e_getI dX3_removeRule_15 rfl lkX3_116 rfl ps_0 (by decide) (by decide) ?_
  refine e_topi (nI rc) hrc ?_
  refine e_iconst (v := nI 1) dX3_removeRule_18 rfl ic_1 ?_
  refine e_isub dX3_removeRule_19 rfl ?_
  refine e_topi (nI (rc - 1)) (pk_sub (by omega)) ?_
  refine e_callV dX3_removeRule_20 rfl csX3_150 (s_shift hf hmr hod (show p < 8 by omega) (show rc - 1 < 8 by omega)) rfl rfl ps_0 (by decide) (by decide) ⟨Nat.le_of_ble_eq_true rfl, Nat.le_of_ble_eq_true rfl⟩ ⟨Nat.le_of_ble_eq_true rfl, Nat.le_of_ble_eq_true rfl⟩ rfl rfl (Nat.le_of_ble_eq_true rfl) ?_
  refine e_aload_0 dX3_removeRule_23 rfl ?_
  refine e_dup dX3_removeRule_24 rfl rfl ?_
  refine e_getI dX3_removeRule_25 rfl lkX3_116 rfl ps_0 (by decide) (by decide) ?_
  refine e_topi (nI rc) hrc ?_
  refine e_iconst (v := nI 1) dX3_removeRule_28 rfl ic_1 ?_
  refine e_isub dX3_removeRule_29 rfl ?_
  refine e_topi (nI (rc - 1)) (pk_sub (by omega)) ?_
  refine e_putI dX3_removeRule_30 rfl lkX3_116 rfl rfl rfl ps_0 (by decide) (by decide) ?_
  refine e_iload_3 dX3_removeRule_33 rfl ?_
  exact e_iret dX3_removeRule_34 rfl rfl (Nat.le_of_ble_eq_true rfl) (Nat.le_of_ble_eq_true rfl) rfl rfl
theorem s_removeRule_nr {l : Launch} (hf : l.stackTraces = false) {M : pmM} {od : Nat → Nat} (hmr : M.2.1 = mrC od) (hod : ∀ p, p < 8 → od p < 8) {rc : Nat} (hrc : M.1 0 3 = nI rc) (h8 : rc ≤ 8) {x : Int32} (hn : ∀ q, q < rc → M.1 (31 + 3 * od q) 0 ≠ x) : Sp l kX3_removeRule 64 14 1 6 [.ref 0, .int x] M (.inr "java/util/NoSuchElementException") M := by
  refine sp_of hf (by decide +kernel) (Nat.le_of_ble_eq_true rfl) (by intro v hv; simp at hv; rcases hv with rfl | rfl <;> rfl) rfl ?_
  refine e_aload_0 dX3_removeRule_0 rfl ?_
  refine e_iload_1 dX3_removeRule_1 rfl ?_
  exact e_callV_x dX3_removeRule_2 csX3_156 (s_requireRule_no hf hmr hod hrc h8 hn) rfl rfl ps_0 (by decide) (by decide) ⟨Nat.le_of_ble_eq_true rfl, Nat.le_of_ble_eq_true rfl⟩ ⟨Nat.le_of_ble_eq_true rfl, Nat.le_of_ble_eq_true rfl⟩ (Nat.le_of_ble_eq_true rfl) rfl ⟨Nat.le_of_ble_eq_true rfl, Nat.le_of_ble_eq_true rfl⟩
def sdM (M : pmM) (j : Nat) (y : Int32) : pmM := (pm2 M.1 (31 + 3 * j) 3 y, M.2)
theorem s_setLastDay_ok {l : Launch} (hf : l.stackTraces = false) {M : pmM} {od : Nat → Nat} (hmr : M.2.1 = mrC od) (hod : ∀ p, p < 8 → od p < 8) {rc : Nat} (hrc : M.1 0 3 = nI rc) (h8 : rc ≤ 8) {x : Int32} {p : Nat} (hp : p < rc) (hx : M.1 (31 + 3 * od p) 0 = x) (hn : ∀ q, q < p → M.1 (31 + 3 * od q) 0 ≠ x) {td : Nat} (htd : M.1 0 5 = nI td) (htd9 : td ≤ 999) {y : Int32} (hy : y = -1 ∨ ∃ d : Nat, td ≤ d ∧ d ≤ 999 ∧ y = nI d) : Sp l kX3_setLastDay 64 2 2 12 [.ref 0, .int x, .int y] M (.inl (some (.int (M.1 (31 + 3 * od p) 3)))) (sdM M (od p) y) := by
  refine sp_of hf (by decide +kernel) (Nat.le_of_ble_eq_true rfl) (by intro v hv; simp at hv; rcases hv with rfl | rfl | rfl <;> rfl) rfl ?_
  rcases hy with rfl | ⟨d, h1, h2, rfl⟩
  · refine e_aload_0 dX3_setLastDay_0 rfl ?_
    refine e_getR dX3_setLastDay_1 rfl lkX3_17 rfl ps_0 (by decide) (by decide) (mr_of hmr rfl) ?_
    refine e_aload_0 dX3_setLastDay_4 rfl ?_
    refine e_iload_1 dX3_setLastDay_5 rfl ?_
    refine e_callV dX3_setLastDay_6 rfl csX3_156 (s_requireRule_ok hf hmr hod hrc h8 hp hx hn) rfl rfl ps_0 (by decide) (by decide) ⟨Nat.le_of_ble_eq_true rfl, Nat.le_of_ble_eq_true rfl⟩ ⟨Nat.le_of_ble_eq_true rfl, Nat.le_of_ble_eq_true rfl⟩ rfl rfl (Nat.le_of_ble_eq_true rfl) ?_
    refine e_aald dX3_setLastDay_9 rfl ps_2 (by decide) (by decide) (by decide) rfl (by omega) (mr_of hmr (mr_order _ _)) ?_
    refine e_astore_3 dX3_setLastDay_10 rfl (Nat.le_of_ble_eq_true rfl) rfl ?_
    refine e_iload_2 dX3_setLastDay_11 rfl ?_
    refine e_iconst (v := -1) dX3_setLastDay_12 rfl ic_m1 ?_
    refine e_ic_eq_t (tgt := 41) dX3_setLastDay_13 (by decide) rfl ?_
    refine e_aload_3 dX3_setLastDay_41 rfl ?_
    refine e_getI dX3_setLastDay_42 rfl lkX3_164 rfl (ps_R (hod _ (by omega))) (by decide) (lt_RU (hod _ (by omega))) ?_
    refine e_istore_4 dX3_setLastDay_45 rfl (Nat.le_of_ble_eq_true rfl) rfl ?_
    refine e_aload_3 dX3_setLastDay_47 rfl ?_
    refine e_iload_2 dX3_setLastDay_48 rfl ?_
    refine e_putI dX3_setLastDay_49 rfl lkX3_164 rfl rfl rfl (ps_R (hod _ (by omega))) (by decide) (lt_RU (hod _ (by omega))) ?_
    refine e_iload_4 dX3_setLastDay_52 rfl ?_
    exact e_iret dX3_setLastDay_54 rfl rfl (Nat.le_of_ble_eq_true rfl) (Nat.le_of_ble_eq_true rfl) rfl rfl
  · refine e_aload_0 dX3_setLastDay_0 rfl ?_
    refine e_getR dX3_setLastDay_1 rfl lkX3_17 rfl ps_0 (by decide) (by decide) (mr_of hmr rfl) ?_
    refine e_aload_0 dX3_setLastDay_4 rfl ?_
    refine e_iload_1 dX3_setLastDay_5 rfl ?_
    refine e_callV dX3_setLastDay_6 rfl csX3_156 (s_requireRule_ok hf hmr hod hrc h8 hp hx hn) rfl rfl ps_0 (by decide) (by decide) ⟨Nat.le_of_ble_eq_true rfl, Nat.le_of_ble_eq_true rfl⟩ ⟨Nat.le_of_ble_eq_true rfl, Nat.le_of_ble_eq_true rfl⟩ rfl rfl (Nat.le_of_ble_eq_true rfl) ?_
    refine e_aald dX3_setLastDay_9 rfl ps_2 (by decide) (by decide) (by decide) rfl (by omega) (mr_of hmr (mr_order _ _)) ?_
    refine e_astore_3 dX3_setLastDay_10 rfl (Nat.le_of_ble_eq_true rfl) rfl ?_
    refine e_iload_2 dX3_setLastDay_11 rfl ?_
    refine e_iconst (v := -1) dX3_setLastDay_12 rfl ic_m1 ?_
    refine e_ic_eq_f dX3_setLastDay_13 rfl ⟨41, by decide⟩ (fun q => nI_pos (show d < 2 ^ 31 by omega) (by rw [q]; decide)) ?_
    refine e_iload_2 dX3_setLastDay_16 rfl ?_
    refine e_aload_0 dX3_setLastDay_17 rfl ?_
    refine e_getI dX3_setLastDay_18 rfl lkX3_143 rfl ps_0 (by decide) (by decide) ?_
    refine e_topi (nI td) htd ?_
    refine e_nc_lt_f dX3_setLastDay_21 rfl ⟨31, by decide⟩ (by omega) (by omega) h1 ?_
    refine e_iload_2 dX3_setLastDay_24 rfl ?_
    refine e_sipush (v := nI 999) dX3_setLastDay_25 rfl sc_999 ?_
    refine e_nc_le_t (tgt := 41) dX3_setLastDay_28 (by decide) (by omega) (by omega) h2 ?_
    refine e_aload_3 dX3_setLastDay_41 rfl ?_
    refine e_getI dX3_setLastDay_42 rfl lkX3_164 rfl (ps_R (hod _ (by omega))) (by decide) (lt_RU (hod _ (by omega))) ?_
    refine e_istore_4 dX3_setLastDay_45 rfl (Nat.le_of_ble_eq_true rfl) rfl ?_
    refine e_aload_3 dX3_setLastDay_47 rfl ?_
    refine e_iload_2 dX3_setLastDay_48 rfl ?_
    refine e_putI dX3_setLastDay_49 rfl lkX3_164 rfl rfl rfl (ps_R (hod _ (by omega))) (by decide) (lt_RU (hod _ (by omega))) ?_
    refine e_iload_4 dX3_setLastDay_52 rfl ?_
    exact e_iret dX3_setLastDay_54 rfl rfl (Nat.le_of_ble_eq_true rfl) (Nat.le_of_ble_eq_true rfl) rfl rfl
theorem s_setLastDay_no2 {l : Launch} (hf : l.stackTraces = false) {M : pmM} {od : Nat → Nat} (hmr : M.2.1 = mrC od) (hod : ∀ p, p < 8 → od p < 8) {rc : Nat} (hrc : M.1 0 3 = nI rc) (h8 : rc ≤ 8) {x : Int32} {p : Nat} (hp : p < rc) (hx : M.1 (31 + 3 * od p) 0 = x) (hn : ∀ q, q < p → M.1 (31 + 3 * od q) 0 ≠ x) {td : Nat} (htd : M.1 0 5 = nI td) (htd9 : td ≤ 999) {y : Int32} (hy : ¬ (y = -1 ∨ ∃ d : Nat, td ≤ d ∧ d ≤ 999 ∧ y = nI d)) : Sp l kX3_setLastDay 64 2 2 12 [.ref 0, .int x, .int y] M (.inr "java/lang/IllegalArgumentException") M := by
  refine sp_of hf (by decide +kernel) (Nat.le_of_ble_eq_true rfl) (by intro v hv; simp at hv; rcases hv with rfl | rfl | rfl <;> rfl) rfl ?_
  refine e_aload_0 dX3_setLastDay_0 rfl ?_
  refine e_getR dX3_setLastDay_1 rfl lkX3_17 rfl ps_0 (by decide) (by decide) (mr_of hmr rfl) ?_
  refine e_aload_0 dX3_setLastDay_4 rfl ?_
  refine e_iload_1 dX3_setLastDay_5 rfl ?_
  refine e_callV dX3_setLastDay_6 rfl csX3_156 (s_requireRule_ok hf hmr hod hrc h8 hp hx hn) rfl rfl ps_0 (by decide) (by decide) ⟨Nat.le_of_ble_eq_true rfl, Nat.le_of_ble_eq_true rfl⟩ ⟨Nat.le_of_ble_eq_true rfl, Nat.le_of_ble_eq_true rfl⟩ rfl rfl (Nat.le_of_ble_eq_true rfl) ?_
  refine e_aald dX3_setLastDay_9 rfl ps_2 (by decide) (by decide) (by decide) rfl (by omega) (mr_of hmr (mr_order _ _)) ?_
  refine e_astore_3 dX3_setLastDay_10 rfl (Nat.le_of_ble_eq_true rfl) rfl ?_
  refine e_iload_2 dX3_setLastDay_11 rfl ?_
  refine e_iconst (v := -1) dX3_setLastDay_12 rfl ic_m1 ?_
  refine e_ic_eq_f dX3_setLastDay_13 rfl ⟨41, by decide⟩ (fun q => hy (Or.inl q)) ?_
  refine e_iload_2 dX3_setLastDay_16 rfl ?_
  refine e_aload_0 dX3_setLastDay_17 rfl ?_
  refine e_getI dX3_setLastDay_18 rfl lkX3_143 rfl ps_0 (by decide) (by decide) ?_
  refine e_topi (nI td) htd ?_
  refine e_ic_lt (tgt := 31) dX3_setLastDay_21 (by decide) rfl (fun hc21 => ?_) (fun hc21 => ?_)
  · exact e_throw dX3_setLastDay_31 dX3_setLastDay_34 dX3_setLastDay_35 dX3_setLastDay_37 dX3_setLastDay_40 th_82_162_86 rfl ⟨Nat.le_of_ble_eq_true rfl, Nat.le_of_ble_eq_true rfl⟩ (Nat.le_of_ble_eq_true rfl) ⟨Nat.le_of_ble_eq_true rfl, Nat.le_of_ble_eq_true rfl⟩ ⟨Nat.le_of_ble_eq_true rfl, Nat.le_of_ble_eq_true rfl⟩ rfl
  · refine e_iload_2 dX3_setLastDay_24 rfl ?_
    refine e_sipush (v := nI 999) dX3_setLastDay_25 rfl sc_999 ?_
    refine e_ic_le_f dX3_setLastDay_28 rfl ⟨41, by decide⟩ (by
        intro q
        obtain ⟨j, hj, rfl⟩ := nI_of (show ¬ y < 0 from fun z => hc21 (Int32.lt_of_lt_of_le z ((nI_leI (a := 0) (by omega) (by omega)).mpr (Nat.zero_le td))))
        have h1 := mt (nI_ltI hj (by omega)).mpr hc21
        have h2 := (nI_leI hj (by omega)).mp q
        exact hy (Or.inr ⟨j, by omega, h2, rfl⟩)) ?_
    exact e_throw dX3_setLastDay_31 dX3_setLastDay_34 dX3_setLastDay_35 dX3_setLastDay_37 dX3_setLastDay_40 th_82_162_86 rfl ⟨Nat.le_of_ble_eq_true rfl, Nat.le_of_ble_eq_true rfl⟩ (Nat.le_of_ble_eq_true rfl) ⟨Nat.le_of_ble_eq_true rfl, Nat.le_of_ble_eq_true rfl⟩ ⟨Nat.le_of_ble_eq_true rfl, Nat.le_of_ble_eq_true rfl⟩ rfl
theorem s_setLastDay_nr {l : Launch} (hf : l.stackTraces = false) {M : pmM} {od : Nat → Nat} (hmr : M.2.1 = mrC od) (hod : ∀ p, p < 8 → od p < 8) {rc : Nat} (hrc : M.1 0 3 = nI rc) (h8 : rc ≤ 8) {x : Int32} (hn : ∀ q, q < rc → M.1 (31 + 3 * od q) 0 ≠ x) {y : Int32} : Sp l kX3_setLastDay 64 2 2 12 [.ref 0, .int x, .int y] M (.inr "java/util/NoSuchElementException") M := by
  refine sp_of hf (by decide +kernel) (Nat.le_of_ble_eq_true rfl) (by intro v hv; simp at hv; rcases hv with rfl | rfl | rfl <;> rfl) rfl ?_
  refine e_aload_0 dX3_setLastDay_0 rfl ?_
  refine e_getR dX3_setLastDay_1 rfl lkX3_17 rfl ps_0 (by decide) (by decide) (mr_of hmr rfl) ?_
  refine e_aload_0 dX3_setLastDay_4 rfl ?_
  refine e_iload_1 dX3_setLastDay_5 rfl ?_
  exact e_callV_x dX3_setLastDay_6 csX3_156 (s_requireRule_no hf hmr hod hrc h8 hn) rfl rfl ps_0 (by decide) (by decide) ⟨Nat.le_of_ble_eq_true rfl, Nat.le_of_ble_eq_true rfl⟩ ⟨Nat.le_of_ble_eq_true rfl, Nat.le_of_ble_eq_true rfl⟩ (Nat.le_of_ble_eq_true rfl) rfl ⟨Nat.le_of_ble_eq_true rfl, Nat.le_of_ble_eq_true rfl⟩
theorem s_rules {l : Launch} (hf : l.stackTraces = false) {M : pmM} {rc : Nat} (hrc : M.1 0 3 = nI rc) (h8 : rc ≤ 8) : Sp l kX3_rules 64 0 0 0 [.ref 0] M (.inl (some (.int (nI rc)))) M := by
  refine sp_of hf (by decide +kernel) (Nat.le_of_ble_eq_true rfl) (by intro v hv; simp at hv; subst hv; rfl) rfl ?_
  refine e_aload_0 dX3_rules_0 rfl ?_
  refine e_getI dX3_rules_1 rfl lkX3_116 rfl ps_0 (by decide) (by decide) ?_
  refine e_topi (nI rc) hrc ?_
  exact e_iret dX3_rules_4 rfl rfl (Nat.le_of_ble_eq_true rfl) (Nat.le_of_ble_eq_true rfl) rfl rfl
theorem s_day {l : Launch} (hf : l.stackTraces = false) {M : pmM} {td : Nat} (htd : M.1 0 5 = nI td) (htd9 : td ≤ 999) : Sp l kX3_day 64 0 0 0 [.ref 0] M (.inl (some (.int (nI td)))) M := by
  refine sp_of hf (by decide +kernel) (Nat.le_of_ble_eq_true rfl) (by intro v hv; simp at hv; subst hv; rfl) rfl ?_
  refine e_aload_0 dX3_day_0 rfl ?_
  refine e_getI dX3_day_1 rfl lkX3_143 rfl ps_0 (by decide) (by decide) ?_
  refine e_topi (nI td) htd ?_
  exact e_iret dX3_day_4 rfl rfl (Nat.le_of_ble_eq_true rfl) (Nat.le_of_ble_eq_true rfl) rfl rfl
theorem s_ruleAt_ok {l : Launch} (hf : l.stackTraces = false) {M : pmM} {od : Nat → Nat} (hmr : M.2.1 = mrC od) (hod : ∀ p, p < 8 → od p < 8) {rc : Nat} (hrc : M.1 0 3 = nI rc) (h8 : rc ≤ 8) {p : Nat} (hp : p < rc) : Sp l kX3_ruleAt 64 2 1 6 [.ref 0, .int (nI p)] M (.inl (some (.int (M.1 (31 + 3 * od p) 0)))) M := by
  refine sp_of hf (by decide +kernel) (Nat.le_of_ble_eq_true rfl) (by intro v hv; simp at hv; rcases hv with rfl | rfl <;> rfl) rfl ?_
  refine e_aload_0 dX3_ruleAt_0 rfl ?_
  refine e_iload_1 dX3_ruleAt_1 rfl ?_
  refine e_callV dX3_ruleAt_2 rfl csX3_167 (s_requirePosition_ok hf hrc h8 hp) rfl rfl ps_0 (by decide) (by decide) ⟨Nat.le_of_ble_eq_true rfl, Nat.le_of_ble_eq_true rfl⟩ ⟨Nat.le_of_ble_eq_true rfl, Nat.le_of_ble_eq_true rfl⟩ rfl rfl (Nat.le_of_ble_eq_true rfl) ?_
  refine e_aload_0 dX3_ruleAt_5 rfl ?_
  refine e_getR dX3_ruleAt_6 rfl lkX3_17 rfl ps_0 (by decide) (by decide) (mr_of hmr rfl) ?_
  refine e_iload_1 dX3_ruleAt_9 rfl ?_
  refine e_aald dX3_ruleAt_10 rfl ps_2 (by decide) (by decide) (by decide) rfl (by omega) (mr_of hmr (mr_order _ _)) ?_
  refine e_getI dX3_ruleAt_11 rfl lkX3_153 rfl (ps_R (hod _ (by omega))) (by decide) (lt_RU (hod _ (by omega))) ?_
  exact e_iret dX3_ruleAt_14 rfl rfl (Nat.le_of_ble_eq_true rfl) (Nat.le_of_ble_eq_true rfl) rfl rfl
theorem s_ruleAt_no {l : Launch} (hf : l.stackTraces = false) {M : pmM} {rc : Nat} (hrc : M.1 0 3 = nI rc) (h8 : rc ≤ 8) {x : Int32} (hx : ¬ vp_in x rc) : Sp l kX3_ruleAt 64 2 1 6 [.ref 0, .int x] M (.inr "java/lang/IndexOutOfBoundsException") M := by
  refine sp_of hf (by decide +kernel) (Nat.le_of_ble_eq_true rfl) (by intro v hv; simp at hv; rcases hv with rfl | rfl <;> rfl) rfl ?_
  refine e_aload_0 dX3_ruleAt_0 rfl ?_
  refine e_iload_1 dX3_ruleAt_1 rfl ?_
  exact e_callV_x dX3_ruleAt_2 csX3_167 (s_requirePosition_no hf hrc h8 hx) rfl rfl ps_0 (by decide) (by decide) ⟨Nat.le_of_ble_eq_true rfl, Nat.le_of_ble_eq_true rfl⟩ ⟨Nat.le_of_ble_eq_true rfl, Nat.le_of_ble_eq_true rfl⟩ (Nat.le_of_ble_eq_true rfl) rfl ⟨Nat.le_of_ble_eq_true rfl, Nat.le_of_ble_eq_true rfl⟩
theorem s_isInForce_ok {l : Launch} (hf : l.stackTraces = false) {M : pmM} {od : Nat → Nat} (hmr : M.2.1 = mrC od) (hod : ∀ p, p < 8 → od p < 8) {rc : Nat} (hrc : M.1 0 3 = nI rc) (h8 : rc ≤ 8) {x : Int32} {p : Nat} (hp : p < rc) (hx : M.1 (31 + 3 * od p) 0 = x) (hn : ∀ q, q < p → M.1 (31 + 3 * od q) 0 ≠ x) : Sp l kX3_isInForce 64 2 1 6 [.ref 0, .int x] M (.inl (some (.int (bI (inF M od p))))) M := by
  refine sp_of hf (by decide +kernel) (Nat.le_of_ble_eq_true rfl) (by intro v hv; simp at hv; rcases hv with rfl | rfl <;> rfl) rfl ?_
  refine e_aload_0 dX3_isInForce_0 rfl ?_
  refine e_getR dX3_isInForce_1 rfl lkX3_17 rfl ps_0 (by decide) (by decide) (mr_of hmr rfl) ?_
  refine e_aload_0 dX3_isInForce_4 rfl ?_
  refine e_iload_1 dX3_isInForce_5 rfl ?_
  refine e_callV dX3_isInForce_6 rfl csX3_156 (s_requireRule_ok hf hmr hod hrc h8 hp hx hn) rfl rfl ps_0 (by decide) (by decide) ⟨Nat.le_of_ble_eq_true rfl, Nat.le_of_ble_eq_true rfl⟩ ⟨Nat.le_of_ble_eq_true rfl, Nat.le_of_ble_eq_true rfl⟩ rfl rfl (Nat.le_of_ble_eq_true rfl) ?_
  refine e_aald dX3_isInForce_9 rfl ps_2 (by decide) (by decide) (by decide) rfl (by omega) (mr_of hmr (mr_order _ _)) ?_
  refine e_aload_0 dX3_isInForce_10 rfl ?_
  refine e_getI dX3_isInForce_11 rfl lkX3_143 rfl ps_0 (by decide) (by decide) ?_
  refine e_callN dX3_isInForce_14 rfl csX3_170 (s_lastsOn hf (hod _ (by omega))) rfl rfl (ps_R (hod _ (by omega))) (by decide) (lt_RU (hod _ (by omega))) ⟨Nat.le_of_ble_eq_true rfl, Nat.le_of_ble_eq_true rfl⟩ ⟨Nat.le_of_ble_eq_true rfl, Nat.le_of_ble_eq_true rfl⟩ rfl rfl (Nat.le_of_ble_eq_true rfl) ?_
  exact e_iret dX3_isInForce_17 rfl (bI_nar _) (Nat.le_of_ble_eq_true rfl) (Nat.le_of_ble_eq_true rfl) rfl rfl
theorem s_isInForce_nr {l : Launch} (hf : l.stackTraces = false) {M : pmM} {od : Nat → Nat} (hmr : M.2.1 = mrC od) (hod : ∀ p, p < 8 → od p < 8) {rc : Nat} (hrc : M.1 0 3 = nI rc) (h8 : rc ≤ 8) {x : Int32} (hn : ∀ q, q < rc → M.1 (31 + 3 * od q) 0 ≠ x) : Sp l kX3_isInForce 64 2 1 6 [.ref 0, .int x] M (.inr "java/util/NoSuchElementException") M := by
  refine sp_of hf (by decide +kernel) (Nat.le_of_ble_eq_true rfl) (by intro v hv; simp at hv; rcases hv with rfl | rfl <;> rfl) rfl ?_
  refine e_aload_0 dX3_isInForce_0 rfl ?_
  refine e_getR dX3_isInForce_1 rfl lkX3_17 rfl ps_0 (by decide) (by decide) (mr_of hmr rfl) ?_
  refine e_aload_0 dX3_isInForce_4 rfl ?_
  refine e_iload_1 dX3_isInForce_5 rfl ?_
  exact e_callV_x dX3_isInForce_6 csX3_156 (s_requireRule_no hf hmr hod hrc h8 hn) rfl rfl ps_0 (by decide) (by decide) ⟨Nat.le_of_ble_eq_true rfl, Nat.le_of_ble_eq_true rfl⟩ ⟨Nat.le_of_ble_eq_true rfl, Nat.le_of_ble_eq_true rfl⟩ (Nat.le_of_ble_eq_true rfl) rfl ⟨Nat.le_of_ble_eq_true rfl, Nat.le_of_ble_eq_true rfl⟩
def exB (M : pmM) (od : Nat → Nat) (ow d : Int32) (i : Nat) : Bool := decide (M.1 (31 + 3 * od i) 2 = ow) && (inF M od i && !lastF (M.1 (31 + 3 * od i) 3) (M.1 0 5 + d))
theorem s_expiring_ok {l : Launch} (hf : l.stackTraces = false) {M : pmM} {od : Nat → Nat} (hmr : M.2.1 = mrC od) (hod : ∀ p, p < 8 → od p < 8) {rc : Nat} (hrc : M.1 0 3 = nI rc) (h8 : rc ≤ 8) {ow : Nat} (how : ow < 6) {d : Nat} (hd1 : 1 ≤ d) (hd2 : d ≤ 99) : Sp l kX3_expiring 64 2 2 12 [.ref 0, .int (nI ow), .int (nI d)] M (.inl (some (.int (nI (cntN (exB M od (nI ow) (nI d)) rc))))) M := by
  refine sp_of hf (by decide +kernel) (Nat.le_of_ble_eq_true rfl) (by intro v hv; simp at hv; rcases hv with rfl | rfl | rfl <;> rfl) rfl ?_
  refine e_iload_1 dX3_expiring_0 rfl ?_
  refine e_callS dX3_expiring_1 rfl csX3_135 (s_requireOwner_ok hf how) rfl rfl ⟨Nat.le_of_ble_eq_true rfl, Nat.le_of_ble_eq_true rfl⟩ ⟨Nat.le_of_ble_eq_true rfl, Nat.le_of_ble_eq_true rfl⟩ rfl rfl (Nat.le_of_ble_eq_true rfl) ?_
  refine e_iload_2 dX3_expiring_4 rfl ?_
  refine e_callS dX3_expiring_5 rfl csX3_174 (s_requireDays_ok hf hd1 hd2) rfl rfl ⟨Nat.le_of_ble_eq_true rfl, Nat.le_of_ble_eq_true rfl⟩ ⟨Nat.le_of_ble_eq_true rfl, Nat.le_of_ble_eq_true rfl⟩ rfl rfl (Nat.le_of_ble_eq_true rfl) ?_
  refine e_iconst (v := nI 0) dX3_expiring_8 rfl ic_0 ?_
  refine e_istore_3 dX3_expiring_9 rfl (Nat.le_of_ble_eq_true rfl) rfl ?_
  refine e_iconst (v := nI 0) dX3_expiring_10 rfl ic_0 ?_
  refine e_istore_4 dX3_expiring_11 rfl (Nat.le_of_ble_eq_true rfl) rfl ?_
  refine loop_up (P := fun i => Ev l kX3_expiring (gM 64 2 12 (.inl (some (.int (nI (cntN (exB M od (nI ow) (nI d)) rc))))) M) (rmd 2 2 12) 64 2 12 13 [some (.ref 0), some (.int (nI ow)), some (.int (nI d)), some (.int (nI (cntN (exB M od (nI ow) (nI d)) i))), some (.int (nI i)), none] [] M) ?_ (fun i hi ih => ?_) 0 (Nat.zero_le rc)
  · refine e_iload_4 dX3_expiring_13 rfl ?_
    refine e_aload_0 dX3_expiring_15 rfl ?_
    refine e_getI dX3_expiring_16 rfl lkX3_116 rfl ps_0 (by decide) (by decide) ?_
    refine e_topi (nI rc) hrc ?_
    refine e_nc_ge_t (tgt := 75) dX3_expiring_19 (by decide) (by omega) (by omega) (Nat.le_refl _) ?_
    refine e_iload_3 dX3_expiring_75 rfl ?_
    exact e_iret dX3_expiring_76 rfl rfl (Nat.le_of_ble_eq_true rfl) (Nat.le_of_ble_eq_true rfl) rfl rfl
  · by_cases h1 : M.1 (31 + 3 * od i) 2 = nI ow
    · cases h2 : inF M od i with
      | true =>
       cases h3 : lastF (M.1 (31 + 3 * od i) 3) (M.1 0 5 + nI d) with
       | true =>
        refine e_iload_4 dX3_expiring_13 rfl ?_
        refine e_aload_0 dX3_expiring_15 rfl ?_
        refine e_getI dX3_expiring_16 rfl lkX3_116 rfl ps_0 (by decide) (by decide) ?_
        refine e_topi (nI rc) hrc ?_
        refine e_nc_ge_f dX3_expiring_19 rfl ⟨75, by decide⟩ (by omega) (by omega) hi ?_
        refine e_aload_0 dX3_expiring_22 rfl ?_
        refine e_getR dX3_expiring_23 rfl lkX3_17 rfl ps_0 (by decide) (by decide) (mr_of hmr rfl) ?_
        refine e_iload_4 dX3_expiring_26 rfl ?_
        refine e_aald dX3_expiring_28 rfl ps_2 (by decide) (by decide) (by decide) rfl (by omega) (mr_of hmr (mr_order _ _)) ?_
        refine e_astore_5 dX3_expiring_29 rfl (Nat.le_of_ble_eq_true rfl) rfl ?_
        refine e_aload_5 dX3_expiring_31 rfl ?_
        refine e_getI dX3_expiring_33 rfl lkX3_177 rfl (ps_R (hod _ (by omega))) (by decide) (lt_RU (hod _ (by omega))) ?_
        refine e_iload_1 dX3_expiring_36 rfl ?_
        refine e_ic_ne_f dX3_expiring_37 rfl ⟨69, by decide⟩ h1 ?_
        refine e_aload_5 dX3_expiring_40 rfl ?_
        refine e_aload_0 dX3_expiring_42 rfl ?_
        refine e_getI dX3_expiring_43 rfl lkX3_143 rfl ps_0 (by decide) (by decide) ?_
        refine e_callN dX3_expiring_46 rfl csX3_170 (s_lastsOn hf (hod _ (by omega))) rfl rfl (ps_R (hod _ (by omega))) (by decide) (lt_RU (hod _ (by omega))) ⟨Nat.le_of_ble_eq_true rfl, Nat.le_of_ble_eq_true rfl⟩ ⟨Nat.le_of_ble_eq_true rfl, Nat.le_of_ble_eq_true rfl⟩ rfl rfl (Nat.le_of_ble_eq_true rfl) ?_
        refine e_if_eq_f dX3_expiring_49 rfl ⟨69, by decide⟩ (bI1 h2) ?_
        refine e_aload_5 dX3_expiring_52 rfl ?_
        refine e_aload_0 dX3_expiring_54 rfl ?_
        refine e_getI dX3_expiring_55 rfl lkX3_143 rfl ps_0 (by decide) (by decide) ?_
        refine e_iload_2 dX3_expiring_58 rfl ?_
        refine e_iadd dX3_expiring_59 rfl ?_
        refine e_callN dX3_expiring_60 rfl csX3_170 (s_lastsOn hf (hod _ (by omega))) rfl rfl (ps_R (hod _ (by omega))) (by decide) (lt_RU (hod _ (by omega))) ⟨Nat.le_of_ble_eq_true rfl, Nat.le_of_ble_eq_true rfl⟩ ⟨Nat.le_of_ble_eq_true rfl, Nat.le_of_ble_eq_true rfl⟩ rfl rfl (Nat.le_of_ble_eq_true rfl) ?_
        refine e_if_ne_t (tgt := 69) dX3_expiring_63 (by decide) (bI1 h3) ?_
        refine e_iinc_4 (v := nI (i + 1)) dX3_expiring_69 rfl (Nat.le_of_ble_eq_true rfl) rfl (nI_1 i) ?_
        refine e_goto (tgt := 13) dX3_expiring_72 (by decide) ?_
        refine e_weak (weak_c (weak_c (weak_c (weak_c (weak_c (weak_n weak_nil)))))) ?_
        refine e_loc ?_ ih
        rw [cntN, if_neg (show ¬ exB M od (nI ow) (nI d) i = true by unfold exB; rw [decide_eq_true h1, h2, h3]; decide)]
       | false =>
        refine e_iload_4 dX3_expiring_13 rfl ?_
        refine e_aload_0 dX3_expiring_15 rfl ?_
        refine e_getI dX3_expiring_16 rfl lkX3_116 rfl ps_0 (by decide) (by decide) ?_
        refine e_topi (nI rc) hrc ?_
        refine e_nc_ge_f dX3_expiring_19 rfl ⟨75, by decide⟩ (by omega) (by omega) hi ?_
        refine e_aload_0 dX3_expiring_22 rfl ?_
        refine e_getR dX3_expiring_23 rfl lkX3_17 rfl ps_0 (by decide) (by decide) (mr_of hmr rfl) ?_
        refine e_iload_4 dX3_expiring_26 rfl ?_
        refine e_aald dX3_expiring_28 rfl ps_2 (by decide) (by decide) (by decide) rfl (by omega) (mr_of hmr (mr_order _ _)) ?_
        refine e_astore_5 dX3_expiring_29 rfl (Nat.le_of_ble_eq_true rfl) rfl ?_
        refine e_aload_5 dX3_expiring_31 rfl ?_
        refine e_getI dX3_expiring_33 rfl lkX3_177 rfl (ps_R (hod _ (by omega))) (by decide) (lt_RU (hod _ (by omega))) ?_
        refine e_iload_1 dX3_expiring_36 rfl ?_
        refine e_ic_ne_f dX3_expiring_37 rfl ⟨69, by decide⟩ h1 ?_
        refine e_aload_5 dX3_expiring_40 rfl ?_
        refine e_aload_0 dX3_expiring_42 rfl ?_
        refine e_getI dX3_expiring_43 rfl lkX3_143 rfl ps_0 (by decide) (by decide) ?_
        refine e_callN dX3_expiring_46 rfl csX3_170 (s_lastsOn hf (hod _ (by omega))) rfl rfl (ps_R (hod _ (by omega))) (by decide) (lt_RU (hod _ (by omega))) ⟨Nat.le_of_ble_eq_true rfl, Nat.le_of_ble_eq_true rfl⟩ ⟨Nat.le_of_ble_eq_true rfl, Nat.le_of_ble_eq_true rfl⟩ rfl rfl (Nat.le_of_ble_eq_true rfl) ?_
        refine e_if_eq_f dX3_expiring_49 rfl ⟨69, by decide⟩ (bI1 h2) ?_
        refine e_aload_5 dX3_expiring_52 rfl ?_
        refine e_aload_0 dX3_expiring_54 rfl ?_
        refine e_getI dX3_expiring_55 rfl lkX3_143 rfl ps_0 (by decide) (by decide) ?_
        refine e_iload_2 dX3_expiring_58 rfl ?_
        refine e_iadd dX3_expiring_59 rfl ?_
        refine e_callN dX3_expiring_60 rfl csX3_170 (s_lastsOn hf (hod _ (by omega))) rfl rfl (ps_R (hod _ (by omega))) (by decide) (lt_RU (hod _ (by omega))) ⟨Nat.le_of_ble_eq_true rfl, Nat.le_of_ble_eq_true rfl⟩ ⟨Nat.le_of_ble_eq_true rfl, Nat.le_of_ble_eq_true rfl⟩ rfl rfl (Nat.le_of_ble_eq_true rfl) ?_
        refine e_if_ne_f dX3_expiring_63 rfl ⟨69, by decide⟩ (bI0 h3) ?_
        refine e_iinc_3 (v := nI (cntN (exB M od (nI ow) (nI d)) i + 1)) dX3_expiring_66 rfl (Nat.le_of_ble_eq_true rfl) rfl (nI_1 (cntN (exB M od (nI ow) (nI d)) i)) ?_
        refine e_iinc_4 (v := nI (i + 1)) dX3_expiring_69 rfl (Nat.le_of_ble_eq_true rfl) rfl (nI_1 i) ?_
        refine e_goto (tgt := 13) dX3_expiring_72 (by decide) ?_
        refine e_weak (weak_c (weak_c (weak_c (weak_c (weak_c (weak_n weak_nil)))))) ?_
        refine e_loc ?_ ih
        rw [cntN, if_pos (show exB M od (nI ow) (nI d) i = true by unfold exB; rw [decide_eq_true h1, h2, h3]; rfl)]
      | false =>
        refine e_iload_4 dX3_expiring_13 rfl ?_
        refine e_aload_0 dX3_expiring_15 rfl ?_
        refine e_getI dX3_expiring_16 rfl lkX3_116 rfl ps_0 (by decide) (by decide) ?_
        refine e_topi (nI rc) hrc ?_
        refine e_nc_ge_f dX3_expiring_19 rfl ⟨75, by decide⟩ (by omega) (by omega) hi ?_
        refine e_aload_0 dX3_expiring_22 rfl ?_
        refine e_getR dX3_expiring_23 rfl lkX3_17 rfl ps_0 (by decide) (by decide) (mr_of hmr rfl) ?_
        refine e_iload_4 dX3_expiring_26 rfl ?_
        refine e_aald dX3_expiring_28 rfl ps_2 (by decide) (by decide) (by decide) rfl (by omega) (mr_of hmr (mr_order _ _)) ?_
        refine e_astore_5 dX3_expiring_29 rfl (Nat.le_of_ble_eq_true rfl) rfl ?_
        refine e_aload_5 dX3_expiring_31 rfl ?_
        refine e_getI dX3_expiring_33 rfl lkX3_177 rfl (ps_R (hod _ (by omega))) (by decide) (lt_RU (hod _ (by omega))) ?_
        refine e_iload_1 dX3_expiring_36 rfl ?_
        refine e_ic_ne_f dX3_expiring_37 rfl ⟨69, by decide⟩ h1 ?_
        refine e_aload_5 dX3_expiring_40 rfl ?_
        refine e_aload_0 dX3_expiring_42 rfl ?_
        refine e_getI dX3_expiring_43 rfl lkX3_143 rfl ps_0 (by decide) (by decide) ?_
        refine e_callN dX3_expiring_46 rfl csX3_170 (s_lastsOn hf (hod _ (by omega))) rfl rfl (ps_R (hod _ (by omega))) (by decide) (lt_RU (hod _ (by omega))) ⟨Nat.le_of_ble_eq_true rfl, Nat.le_of_ble_eq_true rfl⟩ ⟨Nat.le_of_ble_eq_true rfl, Nat.le_of_ble_eq_true rfl⟩ rfl rfl (Nat.le_of_ble_eq_true rfl) ?_
        refine e_if_eq_t (tgt := 69) dX3_expiring_49 (by decide) (bI0 h2) ?_
        refine e_iinc_4 (v := nI (i + 1)) dX3_expiring_69 rfl (Nat.le_of_ble_eq_true rfl) rfl (nI_1 i) ?_
        refine e_goto (tgt := 13) dX3_expiring_72 (by decide) ?_
        refine e_weak (weak_c (weak_c (weak_c (weak_c (weak_c (weak_n weak_nil)))))) ?_
        refine e_loc ?_ ih
        rw [cntN, if_neg (show ¬ exB M od (nI ow) (nI d) i = true by unfold exB; rw [decide_eq_true h1, h2, Bool.false_and]; decide)]
    · skip
      refine e_iload_4 dX3_expiring_13 rfl ?_
      refine e_aload_0 dX3_expiring_15 rfl ?_
      refine e_getI dX3_expiring_16 rfl lkX3_116 rfl ps_0 (by decide) (by decide) ?_
      refine e_topi (nI rc) hrc ?_
      refine e_nc_ge_f dX3_expiring_19 rfl ⟨75, by decide⟩ (by omega) (by omega) hi ?_
      refine e_aload_0 dX3_expiring_22 rfl ?_
      refine e_getR dX3_expiring_23 rfl lkX3_17 rfl ps_0 (by decide) (by decide) (mr_of hmr rfl) ?_
      refine e_iload_4 dX3_expiring_26 rfl ?_
      refine e_aald dX3_expiring_28 rfl ps_2 (by decide) (by decide) (by decide) rfl (by omega) (mr_of hmr (mr_order _ _)) ?_
      refine e_astore_5 dX3_expiring_29 rfl (Nat.le_of_ble_eq_true rfl) rfl ?_
      refine e_aload_5 dX3_expiring_31 rfl ?_
      refine e_getI dX3_expiring_33 rfl lkX3_177 rfl (ps_R (hod _ (by omega))) (by decide) (lt_RU (hod _ (by omega))) ?_
      refine e_iload_1 dX3_expiring_36 rfl ?_
      refine e_ic_ne_t (tgt := 69) dX3_expiring_37 (by decide) h1 ?_
      refine e_iinc_4 (v := nI (i + 1)) dX3_expiring_69 rfl (Nat.le_of_ble_eq_true rfl) rfl (nI_1 i) ?_
      refine e_goto (tgt := 13) dX3_expiring_72 (by decide) ?_
      refine e_weak (weak_c (weak_c (weak_c (weak_c (weak_c (weak_n weak_nil)))))) ?_
      refine e_loc ?_ ih
      rw [cntN, if_neg (show ¬ exB M od (nI ow) (nI d) i = true by unfold exB; rw [decide_eq_false h1, Bool.false_and]; decide)]
theorem s_expiring_no1 {l : Launch} (hf : l.stackTraces = false) {M : pmM} {x : Int32} (hx : ¬ vp_in x 6) {y : Int32} : Sp l kX3_expiring 64 2 2 12 [.ref 0, .int x, .int y] M (.inr "java/lang/IllegalArgumentException") M := by
  refine sp_of hf (by decide +kernel) (Nat.le_of_ble_eq_true rfl) (by intro v hv; simp at hv; rcases hv with rfl | rfl | rfl <;> rfl) rfl ?_
  refine e_iload_1 dX3_expiring_0 rfl ?_
  exact e_callS_x dX3_expiring_1 csX3_135 (s_requireOwner_no hf hx) rfl rfl ⟨Nat.le_of_ble_eq_true rfl, Nat.le_of_ble_eq_true rfl⟩ ⟨Nat.le_of_ble_eq_true rfl, Nat.le_of_ble_eq_true rfl⟩ (Nat.le_of_ble_eq_true rfl) rfl ⟨Nat.le_of_ble_eq_true rfl, Nat.le_of_ble_eq_true rfl⟩
theorem s_expiring_no2 {l : Launch} (hf : l.stackTraces = false) {M : pmM} {ow : Nat} (how : ow < 6) {y : Int32} (hx : ∀ v : Nat, 1 ≤ v → v ≤ 99 → y ≠ nI v) : Sp l kX3_expiring 64 2 2 12 [.ref 0, .int (nI ow), .int y] M (.inr "java/lang/IllegalArgumentException") M := by
  refine sp_of hf (by decide +kernel) (Nat.le_of_ble_eq_true rfl) (by intro v hv; simp at hv; rcases hv with rfl | rfl | rfl <;> rfl) rfl ?_
  refine e_iload_1 dX3_expiring_0 rfl ?_
  refine e_callS dX3_expiring_1 rfl csX3_135 (s_requireOwner_ok hf how) rfl rfl ⟨Nat.le_of_ble_eq_true rfl, Nat.le_of_ble_eq_true rfl⟩ ⟨Nat.le_of_ble_eq_true rfl, Nat.le_of_ble_eq_true rfl⟩ rfl rfl (Nat.le_of_ble_eq_true rfl) ?_
  refine e_iload_2 dX3_expiring_4 rfl ?_
  exact e_callS_x dX3_expiring_5 csX3_174 (s_requireDays_no hf hx) rfl rfl ⟨Nat.le_of_ble_eq_true rfl, Nat.le_of_ble_eq_true rfl⟩ ⟨Nat.le_of_ble_eq_true rfl, Nat.le_of_ble_eq_true rfl⟩ (Nat.le_of_ble_eq_true rfl) rfl ⟨Nat.le_of_ble_eq_true rfl, Nat.le_of_ble_eq_true rfl⟩
