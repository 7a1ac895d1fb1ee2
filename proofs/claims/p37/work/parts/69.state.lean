/-! ===== the law's 'state': a number out of all that can be asked ===== -/
def itJ (f : Nat → Int64 → Int64) : Nat → Int64 → Int64
  | 0, h => h
  | n + 1, h => f n (itJ f n h)
theorem itJ_z (f : Nat → Int64 → Int64) (s : Int64) : s = itJ f 0 s := rfl
theorem itJ_s (f : Nat → Int64 → Int64) (n : Nat) (s : Int64) : itJ f (n + 1) s = f n (itJ f n s) := rfl
theorem itJ_cg {f f' : Nat → Int64 → Int64} (s : Int64) : ∀ n, (∀ i h, i < n → f' i h = f i h) → itJ f' n s = itJ f n s
  | 0, _ => rfl
  | n + 1, h => by rw [itJ, itJ, itJ_cg s n (fun i x hi => h i x (by omega)), h n _ (by omega)]
def svV (M : pmM) (rg : Nat → Nat) (o v : Nat) (h : Int64) : Int64 := 31 * h + (bI (hasb (voF M rg 8 o) v)).toInt64
def svO (M : pmM) (od rg : Nat → Nat) (rc o : Nat) (h : Int64) : Int64 := 31 * itJ (svV M rg o) 32 h + (nI (cntN (usB M od o) rc)).toInt64
theorem svO_at (M : pmM) (od rg : Nat → Nat) (rc o : Nat) (h : Int64) : svO M od rg rc o h = 31 * itJ (svV M rg o) 32 h + (nI (cntN (usB M od o) rc)).toInt64 := rfl
def svQ (M : pmM) (od : Nat → Nat) (p : Nat) (h : Int64) : Int64 := 31 * (31 * (31 * h + (M.1 (31 + 3 * od p) 0).toInt64) + (M.1 (31 + 3 * od p) 5).toInt64) + (idE M (od p)).toInt64
def svR (M : pmM) (od : Nat → Nat) (p : Nat) (h : Int64) : Int64 := 31 * (31 * (31 * svQ M od p h + (bI (inF M od p)).toInt64) + (M.1 (31 + 3 * od p) 6).toInt64) + (pbE M (od p) (od p)).toInt64
def svS (M : pmM) (od : Nat → Nat) (oc rc td : Nat) (rg : Nat → Nat) : Int64 := 31 * itJ (svR M od) rc (itJ (svO M od rg rc) oc 19) + (nI td).toInt64
/-- what is asked of one memory and of another is the same: so are the numbers -/
theorem svS_cg {M N : pmM} {od : Nat → Nat} {oc rc td : Nat} {rg : Nat → Nat} (h1 : ∀ o, o < oc → voF N rg 8 o = voF M rg 8 o) (h2 : ∀ o, o < oc → cntN (usB N od o) rc = cntN (usB M od o) rc) (h3 : ∀ p, p < rc → N.1 (31 + 3 * od p) 0 = M.1 (31 + 3 * od p) 0 ∧ N.1 (31 + 3 * od p) 5 = M.1 (31 + 3 * od p) 5 ∧ idE N (od p) = idE M (od p) ∧ inF N od p = inF M od p ∧ N.1 (31 + 3 * od p) 6 = M.1 (31 + 3 * od p) 6 ∧ pbE N (od p) (od p) = pbE M (od p) (od p)) : svS N od oc rc td rg = svS M od oc rc td rg := by
  unfold svS
  rw [itJ_cg (f := svO M od rg rc) (f' := svO N od rg rc) 19 oc (fun o h ho => by
    unfold svO
    rw [h2 o ho, itJ_cg (f := svV M rg o) (f' := svV N rg o) h 32 (fun v h hv => by unfold svV; rw [h1 o ho])])]
  rw [itJ_cg (f := svR M od) (f' := svR N od) _ rc (fun p h hp => by
    obtain ⟨a1, a2, a3, a4, a5, a6⟩ := h3 p hp
    unfold svR svQ
    rw [a1, a2, a3, a4, a5, a6])]
theorem svS_sx {M N : pmM} {od : Nat → Nat} {oc rc td g : Nat} {rg : Nat → Nat} {H : Nat} (h : IV M od oc rc td g rg H) (hs : SX M N) : svS N od oc rc td rg = svS M od oc rc td rg := by
  have h8 := h.oc8
  have hr8 := h.rc8
  refine svS_cg (fun o ho => voF_c15 (fun a k h1 h2 => hs.2 _ _ (by unfold scr; omega)) 8 o (by omega)) (fun o ho => cntN_congr rc (fun p hp => ?_)) (fun p hp => ?_)
  · have := h.od8 p (by omega)
    have e : ∀ f, f < 3 → ionF N (N.1 (32 + 3 * od p) f) o = ionF M (M.1 (32 + 3 * od p) f) o := fun f hf => by
      rw [hs.2 (32 + 3 * od p) f (by unfold scr; omega)]
      exact ionF_congr hs.nd (h.hfo p f hp hf) o
    unfold usB
    rw [e 0 (by decide), e 1 (by decide), e 2 (by decide)]
  · have := h.od8 p (by omega)
    have e : ∀ k, N.1 (31 + 3 * od p) k = M.1 (31 + 3 * od p) k := fun k => hs.2 _ _ (by unfold scr; omega)
    have e2 : ∀ k, N.1 (33 + 3 * od p) k = M.1 (33 + 3 * od p) k := fun k => hs.2 _ _ (by unfold scr; omega)
    refine ⟨e 0, e 5, ?_, hs.inF this, e 6, ?_⟩
    · unfold idE
      rw [e, e, hs.2 0 5 (by unfold scr; omega)]
    · unfold pbE
      rw [e2, e2, e2]
/-- a last day set where there was none: the rule stays in force -/
theorem svS_sd {M : pmM} {od : Nat → Nat} {oc rc td g : Nat} {rg : Nat → Nat} {H : Nat} (h : IV M od oc rc td g rg H) {p : Nat} (hp : p < rc) {y : Int32} (hm : M.1 (31 + 3 * od p) 3 = -1) (hy : y = -1 ∨ ∃ d : Nat, td ≤ d ∧ d ≤ 999 ∧ y = nI d) : svS (sdM M (od p) y) od oc rc td rg = svS M od oc rc td rg := by
  have h8 := h.oc8
  have hr8 := h.rc8
  have htd := h.td9
  have e0 : ∀ x k, (sdM M (od p) y).1 x k = if x = 31 + 3 * od p ∧ k = 3 then y else M.1 x k := fun x k => rfl
  refine svS_cg (fun o ho => voF_c15 (fun a k h1 h2 => by rw [e0, if_neg (by omega)]) 8 o (by omega)) (fun o ho => cntN_congr rc (fun q hq => ?_)) (fun q hq => ?_)
  · have := h.od8 q (by omega)
    have e : ∀ f, f < 3 → ionF (sdM M (od p) y) ((sdM M (od p) y).1 (32 + 3 * od q) f) o = ionF M (M.1 (32 + 3 * od q) f) o := fun f hf => by
      rw [e0, if_neg (by omega)]
      exact ionF_congr (fun o ho => by rw [e0, if_neg (by omega)]) (h.hfo q f hq hf) o
    unfold usB
    rw [e 0 (by decide), e 1 (by decide), e 2 (by decide)]
  · have ek : ∀ k, k ≠ 3 → (sdM M (od p) y).1 (31 + 3 * od q) k = M.1 (31 + 3 * od q) k := fun k hk => by rw [e0, if_neg (by omega)]
    have e33 : ∀ k, (sdM M (od p) y).1 (33 + 3 * od q) k = M.1 (33 + 3 * od q) k := fun k => by rw [e0, if_neg (by omega)]
    have e05 : (sdM M (od p) y).1 0 5 = M.1 0 5 := by rw [e0, if_neg (by omega)]
    refine ⟨ek 0 (by decide), ek 5 (by decide), ?_, ?_, ek 6 (by decide), ?_⟩
    · unfold idE
      rw [ek 7 (by decide), ek 4 (by decide), e05]
    · unfold inF
      rw [e05]
      by_cases e : q = p
      · subst e
        rw [e0, if_pos ⟨rfl, rfl⟩, hm, h.htd]
        have t1 : lastF (-1) (nI td) = true := decide_eq_true (Or.inl rfl)
        rw [t1]
        rcases hy with rfl | ⟨d, d1, d2, rfl⟩
        · exact t1
        · exact decide_eq_true (Or.inr ((nI_leI (by omega) (by omega)).mpr d1))
      · rw [e0, if_neg (fun z => e (h.odi q p (by omega) (by omega) (by omega)))]
    · unfold pbE
      rw [e33, e33, e33]
theorem s_state {l : Launch} (hf : l.stackTraces = false) {M : pmM} {od : Nat → Nat} {oc rc td g : Nat} {rg : Nat → Nat} {H : Nat} (h : IV M od oc rc td g rg H) : Sp l kL_state 64 13 568 3408 [.ref 0, .int (nI oc)] M (.inl (some (.long (svS M od oc rc td rg)))) M := by
  have h8 := h.oc8
  have hr8 := h.rc8
  refine sp_of hf (by decide +kernel) (Nat.le_of_ble_eq_true rfl) (by intro v hv; simp at hv; rcases hv with rfl | rfl <;> rfl) rfl ?_
  refine e_ldc2 dL_state_0 rfl kjL_113 ?_
  refine e_lstore_2 dL_state_3 rfl (Nat.le_of_ble_eq_true rfl) rfl ?_
  refine e_iconst (v := nI 0) dL_state_4 rfl ic_0 ?_
  refine e_istore_4 dL_state_5 rfl (Nat.le_of_ble_eq_true rfl) rfl ?_
  rw [itJ_z (svO M od rg rc) (19 : Int64)]
  refine loop_up (P := fun i => Ev l kL_state (gM 64 568 3408 (.inl (some (.long (svS M od oc rc td rg)))) M) (rmd 13 568 3408) 64 (65 * i) (6 * (65 * i)) 7 [some (.ref 0), some (.int (nI oc)), some (.long (itJ (svO M od rg rc) i 19)), none, some (.int (nI i)), none] [] M) ?_ (fun i hi ih => ?_) 0 (Nat.zero_le oc)
  · refine e_iload_4 dL_state_7 rfl ?_
    refine e_iload_1 dL_state_9 rfl ?_
    refine e_nc_ge_t (tgt := 72) dL_state_10 (by decide) (by omega) (by omega) (Nat.le_refl oc) ?_
    refine e_iconst (v := nI 0) dL_state_72 rfl ic_0 ?_
    refine e_istore_4 dL_state_73 rfl (Nat.le_of_ble_eq_true rfl) rfl ?_
    rw [itJ_z (svR M od) (itJ (svO M od rg rc) oc 19)]
    refine loop_up (P := fun i => Ev l kL_state (gM 64 568 3408 (.inl (some (.long (svS M od oc rc td rg)))) M) (rmd 13 568 3408) 64 (65 * oc + 6 * i) (6 * (65 * oc + 6 * i)) 75 [some (.ref 0), some (.int (nI oc)), some (.long (itJ (svR M od) i (itJ (svO M od rg rc) oc 19))), none, some (.int (nI i)), none] [] M) ?_ (fun i hi ih => ?_) 0 (Nat.zero_le rc)
    · refine e_iload_4 dL_state_75 rfl ?_
      refine e_aload_0 dL_state_77 rfl ?_
      refine e_callV dL_state_78 rfl csL_123 (s_rules hf h.hrc h.rc8) rfl rfl ps_0 (by decide) (by decide) ⟨Nat.le_of_ble_eq_true rfl, Nat.le_of_ble_eq_true rfl⟩ ⟨(by show _ ≤ 568; omega), (by show _ ≤ 3408; omega)⟩ rfl rfl (Nat.le_of_ble_eq_true rfl) ?_
      refine e_nc_ge_t (tgt := 194) dL_state_81 (by decide) (by omega) (by omega) (Nat.le_refl rc) ?_
      refine e_ldc2 dL_state_194 rfl kjL_115 ?_
      refine e_lload_2 dL_state_197 rfl ?_
      refine e_lmul dL_state_198 rfl ?_
      refine e_aload_0 dL_state_199 rfl ?_
      refine e_callV dL_state_200 rfl csL_126 (s_day hf h.htd h.td9) rfl rfl ps_0 (by decide) (by decide) ⟨Nat.le_of_ble_eq_true rfl, Nat.le_of_ble_eq_true rfl⟩ ⟨(by show _ ≤ 568; omega), (by show _ ≤ 3408; omega)⟩ rfl rfl (Nat.le_of_ble_eq_true rfl) ?_
      refine e_i2l dL_state_203 rfl ?_
      refine e_ladd dL_state_204 rfl ?_
      exact e_jret dL_state_205 rfl (by omega) (by omega) rfl rfl
    · refine e_iload_4 dL_state_75 rfl ?_
      refine e_aload_0 dL_state_77 rfl ?_
      refine e_callV dL_state_78 rfl csL_123 (s_rules hf h.hrc h.rc8) rfl rfl ps_0 (by decide) (by decide) ⟨Nat.le_of_ble_eq_true rfl, Nat.le_of_ble_eq_true rfl⟩ ⟨(by show _ ≤ 568; omega), (by show _ ≤ 3408; omega)⟩ rfl rfl (Nat.le_of_ble_eq_true rfl) ?_
      refine e_nc_ge_f dL_state_81 rfl ⟨194, by decide⟩ (by omega) (by omega) hi ?_
      refine e_aload_0 dL_state_84 rfl ?_
      refine e_bipush (v := nI 10) dL_state_85 rfl bd_10 ?_
      refine e_iload_4 dL_state_87 rfl ?_
      refine e_iconst (v := nI 0) dL_state_89 rfl ic_0 ?_
      refine e_iconst (v := nI 0) dL_state_90 rfl ic_0 ?_
      refine e_callW dL_state_91 rfl csL_117 (k_ruleAt hf h hi) rfl rfl ⟨Nat.le_of_ble_eq_true rfl, Nat.le_of_ble_eq_true rfl⟩ ⟨(by show _ ≤ 568; omega), (by show _ ≤ 3408; omega)⟩ rfl rfl (Nat.le_of_ble_eq_true rfl) ?_
      refine e_istore_5 dL_state_94 rfl (Nat.le_of_ble_eq_true rfl) rfl ?_
      refine e_ldc2 dL_state_96 rfl kjL_115 ?_
      refine e_ldc2 dL_state_99 rfl kjL_115 ?_
      refine e_ldc2 dL_state_102 rfl kjL_115 ?_
      refine e_lload_2 dL_state_105 rfl ?_
      refine e_lmul dL_state_106 rfl ?_
      refine e_iload_5 dL_state_107 rfl ?_
      refine e_i2l dL_state_109 rfl ?_
      refine e_ladd dL_state_110 rfl ?_
      refine e_lmul dL_state_111 rfl ?_
      refine e_aload_0 dL_state_112 rfl ?_
      refine e_bipush (v := nI 15) dL_state_113 rfl bd_15 ?_
      refine e_iload_5 dL_state_115 rfl ?_
      refine e_iconst (v := nI 0) dL_state_117 rfl ic_0 ?_
      refine e_iconst (v := nI 0) dL_state_118 rfl ic_0 ?_
      refine e_callW dL_state_119 rfl csL_117 (k_hits hf h hi) rfl rfl ⟨Nat.le_of_ble_eq_true rfl, Nat.le_of_ble_eq_true rfl⟩ ⟨(by show _ ≤ 568; omega), (by show _ ≤ 3408; omega)⟩ rfl rfl (Nat.le_of_ble_eq_true rfl) ?_
      refine e_i2l dL_state_122 rfl ?_
      refine e_ladd dL_state_123 rfl ?_
      refine e_lmul dL_state_124 rfl ?_
      refine e_aload_0 dL_state_125 rfl ?_
      refine e_bipush (v := nI 17) dL_state_126 rfl bd_17 ?_
      refine e_iload_5 dL_state_128 rfl ?_
      refine e_iconst (v := nI 0) dL_state_130 rfl ic_0 ?_
      refine e_iconst (v := nI 0) dL_state_131 rfl ic_0 ?_
      refine e_callW dL_state_132 rfl csL_117 (k_idleDays hf h hi) rfl rfl ⟨Nat.le_of_ble_eq_true rfl, Nat.le_of_ble_eq_true rfl⟩ ⟨(by show _ ≤ 568; omega), (by show _ ≤ 3408; omega)⟩ rfl rfl (Nat.le_of_ble_eq_true rfl) ?_
      refine e_i2l dL_state_135 rfl ?_
      refine e_ladd dL_state_136 rfl ?_
      refine e_lstore_2 dL_state_137 rfl (Nat.le_of_ble_eq_true rfl) rfl ?_
      refine e_ldc2 dL_state_138 rfl kjL_115 ?_
      refine e_ldc2 dL_state_141 rfl kjL_115 ?_
      refine e_ldc2 dL_state_144 rfl kjL_115 ?_
      refine e_lload_2 dL_state_147 rfl ?_
      refine e_lmul dL_state_148 rfl ?_
      refine e_aload_0 dL_state_149 rfl ?_
      refine e_bipush (v := nI 11) dL_state_150 rfl bd_11 ?_
      refine e_iload_5 dL_state_152 rfl ?_
      refine e_iconst (v := nI 0) dL_state_154 rfl ic_0 ?_
      refine e_iconst (v := nI 0) dL_state_155 rfl ic_0 ?_
      refine e_callW dL_state_156 rfl csL_117 (k_inForce hf h hi) rfl rfl ⟨Nat.le_of_ble_eq_true rfl, Nat.le_of_ble_eq_true rfl⟩ ⟨(by show _ ≤ 568; omega), (by show _ ≤ 3408; omega)⟩ rfl rfl (Nat.le_of_ble_eq_true rfl) ?_
      refine e_i2l dL_state_159 rfl ?_
      refine e_ladd dL_state_160 rfl ?_
      refine e_lmul dL_state_161 rfl ?_
      refine e_aload_0 dL_state_162 rfl ?_
      refine e_bipush (v := nI 16) dL_state_163 rfl bc_16 ?_
      refine e_iload_5 dL_state_165 rfl ?_
      refine e_iconst (v := nI 0) dL_state_167 rfl ic_0 ?_
      refine e_iconst (v := nI 0) dL_state_168 rfl ic_0 ?_
      refine e_callW dL_state_169 rfl csL_117 (k_busyDays hf h hi) rfl rfl ⟨Nat.le_of_ble_eq_true rfl, Nat.le_of_ble_eq_true rfl⟩ ⟨(by show _ ≤ 568; omega), (by show _ ≤ 3408; omega)⟩ rfl rfl (Nat.le_of_ble_eq_true rfl) ?_
      refine e_i2l dL_state_172 rfl ?_
      refine e_ladd dL_state_173 rfl ?_
      refine e_lmul dL_state_174 rfl ?_
      refine e_aload_0 dL_state_175 rfl ?_
      refine e_bipush (v := nI 19) dL_state_176 rfl bd_19 ?_
      refine e_iload_5 dL_state_178 rfl ?_
      refine e_iconst (v := nI 0) dL_state_180 rfl ic_0 ?_
      refine e_iconst (v := nI 0) dL_state_181 rfl ic_0 ?_
      refine e_callW dL_state_182 rfl csL_117 (k_matched hf h hi) rfl rfl ⟨Nat.le_of_ble_eq_true rfl, Nat.le_of_ble_eq_true rfl⟩ ⟨(by show _ ≤ 568; omega), (by show _ ≤ 3408; omega)⟩ rfl rfl (Nat.le_of_ble_eq_true rfl) ?_
      refine e_i2l dL_state_185 rfl ?_
      refine e_ladd dL_state_186 rfl ?_
      refine e_lstore_2 dL_state_187 rfl (Nat.le_of_ble_eq_true rfl) rfl ?_
      refine e_iinc_4 (v := nI (i + 1)) dL_state_188 rfl (Nat.le_of_ble_eq_true rfl) rfl (nI_1 i) ?_
      refine e_goto (tgt := 75) dL_state_191 (by decide) ?_
      refine e_weak (weak_c (weak_c (weak_c (weak_c (weak_c (weak_n weak_nil)))))) ?_
      dsimp only [itJ, svR, svQ] at ih
      exact e_wid (by omega) (by omega) ih
  · refine e_iload_4 dL_state_7 rfl ?_
    refine e_iload_1 dL_state_9 rfl ?_
    refine e_nc_ge_f dL_state_10 rfl ⟨72, by decide⟩ (by omega) (by omega) hi ?_
    refine e_iconst (v := nI 0) dL_state_13 rfl ic_0 ?_
    refine e_istore_5 dL_state_14 rfl (Nat.le_of_ble_eq_true rfl) rfl ?_
    rw [itJ_z (svV M rg i) (itJ (svO M od rg rc) i 19)]
    refine loop_up (P := fun v => Ev l kL_state (gM 64 568 3408 (.inl (some (.long (svS M od oc rc td rg)))) M) (rmd 13 568 3408) 64 (65 * i + 2 * v) (6 * (65 * i + 2 * v)) 16 [some (.ref 0), some (.int (nI oc)), some (.long (itJ (svV M rg i) v (itJ (svO M od rg rc) i 19))), none, some (.int (nI i)), some (.int (nI v))] [] M) ?_ (fun v hv iv => ?_) 0 (Nat.zero_le 32)
    · refine e_iload_5 dL_state_16 rfl ?_
      refine e_bipush (v := nI 32) dL_state_18 rfl bc_32 ?_
      refine e_nc_ge_t (tgt := 48) dL_state_20 (by decide) (by omega) (by omega) (Nat.le_refl 32) ?_
      refine e_ldc2 dL_state_48 rfl kjL_115 ?_
      refine e_lload_2 dL_state_51 rfl ?_
      refine e_lmul dL_state_52 rfl ?_
      refine e_aload_0 dL_state_53 rfl ?_
      refine e_bipush (v := nI 7) dL_state_54 rfl bc_7 ?_
      refine e_iload_4 dL_state_56 rfl ?_
      refine e_iconst (v := nI 0) dL_state_58 rfl ic_0 ?_
      refine e_iconst (v := nI 0) dL_state_59 rfl ic_0 ?_
      refine e_callW dL_state_60 rfl csL_117 (k_users hf h hi) rfl rfl ⟨Nat.le_of_ble_eq_true rfl, Nat.le_of_ble_eq_true rfl⟩ ⟨(by show _ ≤ 568; omega), (by show _ ≤ 3408; omega)⟩ rfl rfl (Nat.le_of_ble_eq_true rfl) ?_
      refine e_i2l dL_state_63 rfl ?_
      refine e_ladd dL_state_64 rfl ?_
      refine e_lstore_2 dL_state_65 rfl (Nat.le_of_ble_eq_true rfl) rfl ?_
      refine e_iinc_4 (v := nI (i + 1)) dL_state_66 rfl (Nat.le_of_ble_eq_true rfl) rfl (nI_1 i) ?_
      refine e_goto (tgt := 7) dL_state_69 (by decide) ?_
      refine e_weak (weak_c (weak_c (weak_c (weak_c (weak_c (weak_n weak_nil)))))) ?_
      rw [itJ_s, svO_at] at ih
      exact e_wid (by omega) (by omega) ih
    · refine e_iload_5 dL_state_16 rfl ?_
      refine e_bipush (v := nI 32) dL_state_18 rfl bc_32 ?_
      refine e_nc_ge_f dL_state_20 rfl ⟨48, by decide⟩ (by omega) (by omega) hv ?_
      refine e_ldc2 dL_state_23 rfl kjL_115 ?_
      refine e_lload_2 dL_state_26 rfl ?_
      refine e_lmul dL_state_27 rfl ?_
      refine e_aload_0 dL_state_28 rfl ?_
      refine e_bipush (v := nI 6) dL_state_29 rfl bc_6 ?_
      refine e_iload_4 dL_state_31 rfl ?_
      refine e_iload_5 dL_state_33 rfl ?_
      refine e_iconst (v := nI 0) dL_state_35 rfl ic_0 ?_
      refine e_callW dL_state_36 rfl csL_117 (k_hasValue hf h hi hv) rfl rfl ⟨Nat.le_of_ble_eq_true rfl, Nat.le_of_ble_eq_true rfl⟩ ⟨(by show _ ≤ 568; omega), (by show _ ≤ 3408; omega)⟩ rfl rfl (Nat.le_of_ble_eq_true rfl) ?_
      refine e_i2l dL_state_39 rfl ?_
      refine e_ladd dL_state_40 rfl ?_
      refine e_lstore_2 dL_state_41 rfl (Nat.le_of_ble_eq_true rfl) rfl ?_
      refine e_iinc_5 (v := nI (v + 1)) dL_state_42 rfl (Nat.le_of_ble_eq_true rfl) rfl (nI_1 v) ?_
      refine e_goto (tgt := 16) dL_state_45 (by decide) ?_
      dsimp only [itJ, svV] at iv
      exact e_wid (by omega) (by omega) iv
