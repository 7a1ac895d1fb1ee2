/-! ===== FilterRules: who decides how many, now and then ===== -/
def tN (x : Int32) : Nat := x.toBitVec.toNat
theorem tN_and {x : Int32} (h : tN x < 65536) (y : Int32) : tN (x &&& y) < 65536 := by
  unfold tN at h ⊢
  rw [Int32.toBitVec_and, BitVec.toNat_and]
  exact Nat.lt_of_le_of_lt Nat.and_le_left h
theorem tN_or {x y : Int32} (h : tN x < 65536) (h2 : tN y < 65536) : tN (x ||| y) < 65536 := by
  unfold tN at h h2 ⊢
  rw [Int32.toBitVec_or, BitVec.toNat_or]
  exact Nat.or_lt_two_pow (n := 16) h h2
theorem tN_nI {n : Nat} (h : n < 2 ^ 32) : tN (nI n) = n := pk_tn h
theorem nI_tN (x : Int32) : nI (tN x) = x := by
  apply Int32.toBitVec_inj.mp
  apply BitVec.eq_of_toNat_eq
  exact tN_nI x.toBitVec.isLt
theorem tN_255 (x : Int32) : x &&& nI 255 = nI (tN x % 256) := pk_and x 8 (by decide)
theorem tN_us8 (x : Int32) : pmUs x (nI 8) = nI (tN x / 256) := by
  have e : pmUs x (nI 8) = nI (tN (pmUs x (nI 8))) := (nI_tN _).symm
  rw [e]
  congr 1
  unfold tN
  rw [pmUs_bv x (by decide), BitVec.toNat_ushiftRight, Nat.shiftRight_eq_div_pow]
theorem foE_lo (x : Int32) : foE (x &&& nI 255) = nI (fo (tN x % 256)) := by rw [tN_255]; exact foE_eq (Nat.mod_lt _ (by decide))
theorem foE_hi {x : Int32} (h : tN x < 65536) : foE (pmUs x (nI 8)) = nI (fo (tN x / 256)) := by rw [tN_us8]; exact foE_eq (by omega)
/-- one group of services -/
def tsS (mk sz : Int32) (i : Nat) (M : pmM) : pmM := (pm2 M.1 (6 + fo (tN (mk &&& M.1 62 i) % 256)) (fo (tN (mk &&& M.1 62 i) / 256)) (M.1 (6 + fo (tN (mk &&& M.1 62 i) % 256)) (fo (tN (mk &&& M.1 62 i) / 256)) + sz * M.1 63 i), M.2)
/-- the same but for the tally -/
def TX (M M' : pmM) : Prop := M'.2 = M.2 ∧ ∀ a k, ¬ (6 ≤ a ∧ a < 15) → M'.1 a k = M.1 a k
theorem TX.rf (M : pmM) : TX M M := ⟨rfl, fun _ _ _ => rfl⟩
theorem TX.tr {M M' M'' : pmM} (h : TX M M') (h' : TX M' M'') : TX M M'' := ⟨h'.1.trans h.1, fun a k q => (h'.2 a k q).trans (h.2 a k q)⟩
theorem TX.SX {M M' : pmM} (h : TX M M') : SX M M' := ⟨h.1, fun a k q => h.2 a k (fun z => q (Or.inr (Or.inl z)))⟩
theorem TX.put {M : pmM} {a k : Nat} {v : Int32} (ha : 6 ≤ a ∧ a < 15) : TX M (pm2 M.1 a k v, M.2) := ⟨rfl, fun b j q => by
  show (if b = a ∧ j = k then v else M.1 b j) = _
  rw [if_neg (fun e => q (by rw [e.1]; exact ha))]⟩
theorem TX.it {step : Nat → pmM → pmM} (h : ∀ i M, TX M (step i M)) (M : pmM) : ∀ n, TX M (itM step n M)
  | 0 => TX.rf M
  | n + 1 => (TX.it h M n).tr (h n _)
theorem tsS_TX (mk sz : Int32) (i : Nat) (M : pmM) : TX M (tsS mk sz i M) := TX.put (by have := fo_le (tN (mk &&& M.1 62 i) % 256); omega)
theorem s_tallyServices {l : Launch} (hf : l.stackTraces = false) {M : pmM} {od : Nat → Nat} (hmr : M.2.1 = mrC od) {c : Nat} (hc : M.1 61 2 = nI c) (hcl : c ≤ 32) {mk sz : Int32} (hm : tN mk < 65536) : Sp l kX3_tallyServices 64 2 0 0 [.ref 0, .int mk, .int sz] M (.inl none) (itM (tsS mk sz) c M) := by
  refine sp_of hf (by decide +kernel) (Nat.le_of_ble_eq_true rfl) (by intro v hv; simp at hv; rcases hv with rfl | rfl | rfl <;> rfl) rfl ?_
  refine e_aload_0 dX3_tallyServices_0 rfl ?_
  refine e_getR dX3_tallyServices_1 rfl lkX3_23 rfl ps_0 (by decide) (by decide) (mr_of hmr rfl) ?_
  refine e_iconst (v := nI 2) dX3_tallyServices_4 rfl ic_2 ?_
  refine e_aald dX3_tallyServices_5 rfl ps_3 (by decide) (by decide) (by decide) rfl (by omega) (mr_of hmr (mr_groups _ _)) ?_
  refine e_astore_3 dX3_tallyServices_6 rfl (Nat.le_of_ble_eq_true rfl) rfl ?_
  refine e_iconst (v := nI 0) dX3_tallyServices_7 rfl ic_0 ?_
  refine e_istore_4 dX3_tallyServices_8 rfl (Nat.le_of_ble_eq_true rfl) rfl ?_
  refine loop_up (P := fun i => Ev l kX3_tallyServices (gM 64 0 0 (.inl none) (itM (tsS mk sz) c M)) (rmd 2 0 0) 64 0 0 10 [some (.ref 0), some (.int mk), some (.int sz), some (.ref (55 + 3 * 2)), some (.int (nI i)), none, none, none] [] (itM (tsS mk sz) i M)) ?_ (fun i hi ih => ?_) 0 (Nat.zero_le c)
  · refine e_iload_4 dX3_tallyServices_10 rfl ?_
    refine e_aload_3 dX3_tallyServices_12 rfl ?_
    refine e_getI dX3_tallyServices_13 rfl lkX3_301 rfl (ps_g (by decide)) (by decide) (lt_GR (by decide)) ?_
    refine e_topi (nI c) (((TX.it (tsS_TX mk sz) M _).2 _ _ (by decide)).trans hc) ?_
    refine e_nc_ge_t (tgt := 79) dX3_tallyServices_16 (by decide) (by omega) (by omega) (Nat.le_refl _) ?_
    exact e_vret dX3_tallyServices_79 rfl (Nat.le_of_ble_eq_true rfl) (Nat.le_of_ble_eq_true rfl) rfl
  · have hT := TX.it (tsS_TX mk sz) M i
    generalize hMi : itM (tsS mk sz) i M = Mi at hT ih ⊢
    have hmi : Mi.2.1 = mrC od := hT.SX.mr hmr
    have hx : tN (mk &&& Mi.1 62 i) < 65536 := tN_and hm _
    have hA := fo_le (tN (mk &&& Mi.1 62 i) % 256)
    have hB := fo_le (tN (mk &&& Mi.1 62 i) / 256)
    refine e_iload_4 dX3_tallyServices_10 rfl ?_
    refine e_aload_3 dX3_tallyServices_12 rfl ?_
    refine e_getI dX3_tallyServices_13 rfl lkX3_301 rfl (ps_g (by decide)) (by decide) (lt_GR (by decide)) ?_
    refine e_topi (nI c) ((hT.2 _ _ (by decide)).trans hc) ?_
    refine e_nc_ge_f dX3_tallyServices_16 rfl ⟨79, by decide⟩ (by omega) (by omega) hi ?_
    refine e_iload_1 dX3_tallyServices_19 rfl ?_
    refine e_aload_3 dX3_tallyServices_20 rfl ?_
    refine e_getR dX3_tallyServices_21 rfl lkX3_304 rfl (ps_g (by decide)) (by decide) (lt_GR (by decide)) (mr_of hmi (mr_g0 _ (by decide))) ?_
    refine e_iload_4 dX3_tallyServices_24 rfl ?_
    refine e_iald dX3_tallyServices_26 rfl (ps_gM (by decide)) (lt_GM (by decide)) rfl (by omega) ?_
    refine e_iand dX3_tallyServices_27 rfl ?_
    refine e_istore_5 dX3_tallyServices_28 rfl (Nat.le_of_ble_eq_true rfl) rfl ?_
    refine e_iload_5 dX3_tallyServices_30 rfl ?_
    refine e_sipush (v := nI 255) dX3_tallyServices_32 rfl sc_255 ?_
    refine e_iand dX3_tallyServices_35 rfl ?_
    refine e_callS dX3_tallyServices_36 rfl csX3_281 (s_firstOf hf) rfl rfl ⟨Nat.le_of_ble_eq_true rfl, Nat.le_of_ble_eq_true rfl⟩ ⟨Nat.le_of_ble_eq_true rfl, Nat.le_of_ble_eq_true rfl⟩ rfl rfl (Nat.le_of_ble_eq_true rfl) ?_
    refine e_topi (nI (fo (tN (mk &&& Mi.1 62 i) % 256))) (foE_lo _) ?_
    refine e_istore_6 dX3_tallyServices_39 rfl (Nat.le_of_ble_eq_true rfl) rfl ?_
    refine e_iload_5 dX3_tallyServices_41 rfl ?_
    refine e_bipush (v := nI 8) dX3_tallyServices_43 rfl bc_8 ?_
    refine e_iushr dX3_tallyServices_45 rfl ?_
    refine e_callS dX3_tallyServices_46 rfl csX3_281 (s_firstOf hf) rfl rfl ⟨Nat.le_of_ble_eq_true rfl, Nat.le_of_ble_eq_true rfl⟩ ⟨Nat.le_of_ble_eq_true rfl, Nat.le_of_ble_eq_true rfl⟩ rfl rfl (Nat.le_of_ble_eq_true rfl) ?_
    refine e_topi (nI (fo (tN (mk &&& Mi.1 62 i) / 256))) (foE_hi hx) ?_
    refine e_istore_7 dX3_tallyServices_49 rfl (Nat.le_of_ble_eq_true rfl) rfl ?_
    refine e_aload_0 dX3_tallyServices_51 rfl ?_
    refine e_getR dX3_tallyServices_52 rfl lkX3_33 rfl ps_0 (by decide) (by decide) (mr_of hmi rfl) ?_
    refine e_iload_6 dX3_tallyServices_55 rfl ?_
    refine e_aald dX3_tallyServices_57 rfl ps_5 (by decide) (by decide) (by decide) rfl (by omega) (mr_of hmi (mr_tally _ _)) ?_
    refine e_iload_7 dX3_tallyServices_58 rfl ?_
    refine e_dup2 dX3_tallyServices_60 rfl rfl rfl ?_
    refine e_iald dX3_tallyServices_61 rfl (ps_T (by omega)) (lt_TR (by omega)) rfl (by omega) ?_
    refine e_iload_2 dX3_tallyServices_62 rfl ?_
    refine e_aload_3 dX3_tallyServices_63 rfl ?_
    refine e_getR dX3_tallyServices_64 rfl lkX3_307 rfl (ps_g (by decide)) (by decide) (lt_GR (by decide)) (mr_of hmi (mr_g1 _ (by decide))) ?_
    refine e_iload_4 dX3_tallyServices_67 rfl ?_
    refine e_iald dX3_tallyServices_69 rfl (ps_gS (by decide)) (lt_GS (by decide)) rfl (by omega) ?_
    refine e_imul dX3_tallyServices_70 rfl ?_
    refine e_iadd dX3_tallyServices_71 rfl ?_
    refine e_iast dX3_tallyServices_72 rfl (ps_T (by omega)) (lt_TR (by omega)) rfl (by omega) ?_
    refine e_iinc_4 (v := nI (i + 1)) dX3_tallyServices_73 rfl (Nat.le_of_ble_eq_true rfl) rfl (nI_1 i) ?_
    refine e_goto (tgt := 10) dX3_tallyServices_76 (by decide) ?_
    refine e_weak (weak_c (weak_c (weak_c (weak_c (weak_c (weak_n (weak_n (weak_n weak_nil)))))))) ?_
    refine e_mem ?_ ih
    rw [itM, hMi]; rfl
def mvV (now thn : Int32) (i v : Nat) (M : pmM) : pmM := (pm2 (pm2 M.1 4 v (M.1 4 v ||| ((pmUs now (nI v) &&& nI 1) <<< (nI i &&& 31)))) 4 v ((M.1 4 v ||| ((pmUs now (nI v) &&& nI 1) <<< (nI i &&& 31))) ||| ((pmUs thn (nI v) &&& nI 1) <<< (nI (i + 8) &&& 31))), M.2)
theorem mvV_eq (M : pmM) (now thn : Int32) (i v : Nat) : (pm2 (pm2 M.1 4 v (M.1 4 v ||| ((pmUs now (nI v) &&& nI 1) <<< (nI i &&& 31)))) 4 v ((pm2 M.1 4 v (M.1 4 v ||| ((pmUs now (nI v) &&& nI 1) <<< (nI i &&& 31)))) 4 v ||| ((pmUs thn (nI v) &&& nI 1) <<< (nI (i + 8) &&& 31))), M.2) = mvV now thn i v M := by
  unfold mvV
  rw [show (pm2 M.1 4 v (M.1 4 v ||| ((pmUs now (nI v) &&& nI 1) <<< (nI i &&& 31)))) 4 v = M.1 4 v ||| ((pmUs now (nI v) &&& nI 1) <<< (nI i &&& 31)) from by rw [pm2_at, if_pos ⟨rfl, rfl⟩]]
def thF (M : pmM) (od : Nat → Nat) (fld : Nat) (ob fv : Int32) (i : Nat) : Int32 := if ¬ fv = 0 ∧ ionF M (M.1 (32 + 3 * od i) fld) (ixN ob) = true then M.1 (33 + 3 * od i) fld ||| fv else M.1 (33 + 3 * od i) fld
def mvR (od : Nat → Nat) (fld : Nat) (ob fv : Int32) (i : Nat) (M : pmM) : pmM := if inF M od i = true then itM (mvV (M.1 (33 + 3 * od i) fld) (thF M od fld ob fv i) i) 32 M else M
def mvM (od : Nat → Nat) (rc fld : Nat) (ob fv : Int32) (M : pmM) : pmM := itM (mvR od fld ob fv) rc (fillM M 4 32 (nI 0))
/-- the same but for the marks -/
def MX (M M' : pmM) : Prop := M'.2 = M.2 ∧ ∀ a k, ¬ a = 4 → M'.1 a k = M.1 a k
theorem MX.rf (M : pmM) : MX M M := ⟨rfl, fun _ _ _ => rfl⟩
theorem MX.tr {M M' M'' : pmM} (h : MX M M') (h' : MX M' M'') : MX M M'' := ⟨h'.1.trans h.1, fun a k q => (h'.2 a k q).trans (h.2 a k q)⟩
theorem MX.SX {M M' : pmM} (h : MX M M') : SX M M' := ⟨h.1, fun a k q => h.2 a k (fun z => q (Or.inl z))⟩
theorem MX.put {M : pmM} {f : Nat → Nat → Int32} {k : Nat} {v : Int32} (h : MX M (f, M.2)) : MX M (pm2 f 4 k v, M.2) := ⟨rfl, fun b j q => by
  show (if b = 4 ∧ j = k then v else f b j) = _
  rw [if_neg (fun e => q e.1)]
  exact h.2 b j q⟩
theorem MX.it {step : Nat → pmM → pmM} (h : ∀ i M, MX M (step i M)) (M : pmM) : ∀ n, MX M (itM step n M)
  | 0 => MX.rf M
  | n + 1 => (MX.it h M n).tr (h n _)
theorem mvV_MX (now thn : Int32) (i v : Nat) (M : pmM) : MX M (mvV now thn i v M) := MX.put (MX.put (MX.rf M))
theorem mvR_MX (od : Nat → Nat) (fld : Nat) (ob fv : Int32) (i : Nat) (M : pmM) : MX M (mvR od fld ob fv i M) := by
  unfold mvR
  split
  · exact MX.it (mvV_MX _ _ _) M 32
  · exact MX.rf M
theorem fill4_MX (M : pmM) : MX M (fillM M 4 32 (nI 0)) := ⟨rfl, fun b j q => if_neg (fun e => q e.1)⟩
theorem mv_MX (od : Nat → Nat) (fld : Nat) (ob fv : Int32) (M : pmM) (n : Nat) : MX M (itM (mvR od fld ob fv) n (fillM M 4 32 (nI 0))) := (fill4_MX M).tr (MX.it (mvR_MX od fld ob fv) _ n)
theorem s_markValues {l : Launch} (hf : l.stackTraces = false) {M : pmM} {od : Nat → Nat} (hmr : M.2.1 = mrC od) (hod : ∀ p, p < 8 → od p < 8) {rc : Nat} (hrc : M.1 0 3 = nI rc) (h8 : rc ≤ 8) (hfo : ∀ p f, p < rc → f < 3 → fOk (M.1 (32 + 3 * od p) f)) {fld : Nat} (hfl : fld < 3) {ob fv : Int32} (hob : fv = 0 ∨ ∃ k : Nat, k < 8 ∧ ob = nI k) : Sp l kX3_markValues 64 11 0 0 [.ref 0, .int (nI fld), .int ob, .int fv] M (.inl none) (mvM od rc fld ob fv M) := by
  refine sp_of hf (by decide +kernel) (Nat.le_of_ble_eq_true rfl) (by intro v hv; simp at hv; rcases hv with rfl | rfl | rfl | rfl <;> rfl) rfl ?_
  refine e_aload_0 dX3_markValues_0 rfl ?_
  refine e_getR dX3_markValues_1 rfl lkX3_27 rfl ps_0 (by decide) (by decide) (mr_of hmr rfl) ?_
  refine e_iconst (v := nI 0) dX3_markValues_4 rfl ic_0 ?_
  refine e_callS dX3_markValues_5 rfl csX3_288 (s_fill hf ps_4 (by decide)) rfl rfl ⟨Nat.le_of_ble_eq_true rfl, Nat.le_of_ble_eq_true rfl⟩ ⟨Nat.le_of_ble_eq_true rfl, Nat.le_of_ble_eq_true rfl⟩ rfl rfl (Nat.le_of_ble_eq_true rfl) ?_
  refine e_iconst (v := nI 0) dX3_markValues_8 rfl ic_0 ?_
  refine e_istore_4 dX3_markValues_9 rfl (Nat.le_of_ble_eq_true rfl) rfl ?_
  refine loop_up (P := fun i => Ev l kX3_markValues (gM 64 0 0 (.inl none) (mvM od rc fld ob fv M)) (rmd 11 0 0) 64 0 0 11 [some (.ref 0), some (.int (nI fld)), some (.int ob), some (.int fv), some (.int (nI i)), none, none, none, none] [] (itM (mvR od fld ob fv) i (fillM M 4 32 (nI 0)))) ?_ (fun i hi ih => ?_) 0 (Nat.zero_le rc)
  · refine e_iload_4 dX3_markValues_11 rfl ?_
    refine e_aload_0 dX3_markValues_13 rfl ?_
    refine e_getI dX3_markValues_14 rfl lkX3_116 rfl ps_0 (by decide) (by decide) ?_
    refine e_topi (nI rc) (((mv_MX od fld ob fv M _).2 _ _ (by decide)).trans hrc) ?_
    refine e_nc_ge_t (tgt := 144) dX3_markValues_17 (by decide) (by omega) (by omega) (Nat.le_refl _) ?_
    exact e_vret dX3_markValues_144 rfl (Nat.le_of_ble_eq_true rfl) (Nat.le_of_ble_eq_true rfl) rfl
  · have hT := mv_MX od fld ob fv M i
    generalize hMi : itM (mvR od fld ob fv) i (fillM M 4 32 (nI 0)) = Mi at hT ih ⊢
    have ih := e_mem (congrArg (mvR od fld ob fv i) hMi.symm) ih
    have hmi : Mi.2.1 = mrC od := hT.SX.mr hmr
    have hri : Mi.1 0 3 = nI rc := (hT.2 _ _ (by decide)).trans hrc
    have hoi : fOk (Mi.1 (32 + 3 * od i) fld) := by rw [hT.2 _ _ (by omega)]; exact hfo i fld hi hfl
    by_cases h1 : inF Mi od i = true
    · have ih := e_mem (if_pos h1).symm ih
      have H : ∀ v, v ≤ 32 → Ev l kX3_markValues (gM 64 0 0 (.inl none) (mvM od rc fld ob fv M)) (rmd 11 0 0) 64 0 0 82 [some (.ref 0), some (.int (nI fld)), some (.int ob), some (.int fv), some (.int (nI i)), some (.ref (31 + 3 * od i)), some (.int (Mi.1 (33 + 3 * od i) fld)), some (.int (thF Mi od fld ob fv i)), some (.int (nI v))] [] (itM (mvV (Mi.1 (33 + 3 * od i) fld) (thF Mi od fld ob fv i) i) v Mi) := by
        refine loop_up ?_ (fun v hv ih2 => ?_)
        · refine e_iload_8 dX3_markValues_82 rfl ?_
          refine e_bipush (v := nI 32) dX3_markValues_84 rfl bc_32 ?_
          refine e_nc_ge_t (tgt := 138) dX3_markValues_86 (by decide) (by omega) (by omega) (Nat.le_refl 32) ?_
          refine e_iinc_4 (v := nI (i + 1)) dX3_markValues_138 rfl (Nat.le_of_ble_eq_true rfl) rfl (nI_1 i) ?_
          refine e_goto (tgt := 11) dX3_markValues_141 (by decide) ?_
          refine e_weak (weak_c (weak_c (weak_c (weak_c (weak_c (weak_n (weak_n (weak_n (weak_n weak_nil))))))))) ?_
          exact ih
        · have hmv : (itM (mvV (Mi.1 (33 + 3 * od i) fld) (thF Mi od fld ob fv i) i) v Mi).2.1 = mrC od := ((MX.it (mvV_MX _ _ _) Mi v).SX.mr hmi)
          refine e_iload_8 dX3_markValues_82 rfl ?_
          refine e_bipush (v := nI 32) dX3_markValues_84 rfl bc_32 ?_
          refine e_nc_ge_f dX3_markValues_86 rfl ⟨138, by decide⟩ (by omega) (by omega) hv ?_
          refine e_aload_0 dX3_markValues_89 rfl ?_
          refine e_getR dX3_markValues_90 rfl lkX3_27 rfl ps_0 (by decide) (by decide) (mr_of hmv rfl) ?_
          refine e_iload_8 dX3_markValues_93 rfl ?_
          refine e_dup2 dX3_markValues_95 rfl rfl rfl ?_
          refine e_iald dX3_markValues_96 rfl ps_4 (by decide) rfl (by omega) ?_
          refine e_iload_6 dX3_markValues_97 rfl ?_
          refine e_iload_8 dX3_markValues_99 rfl ?_
          refine e_iushr dX3_markValues_101 rfl ?_
          refine e_iconst (v := nI 1) dX3_markValues_102 rfl ic_1 ?_
          refine e_iand dX3_markValues_103 rfl ?_
          refine e_iload_4 dX3_markValues_104 rfl ?_
          refine e_ishl dX3_markValues_106 rfl ?_
          refine e_ior dX3_markValues_107 rfl ?_
          refine e_iast dX3_markValues_108 rfl ps_4 (by decide) rfl (by omega) ?_
          refine e_aload_0 dX3_markValues_109 rfl ?_
          refine e_getR dX3_markValues_110 rfl lkX3_27 rfl ps_0 (by decide) (by decide) (mr_of hmv rfl) ?_
          refine e_iload_8 dX3_markValues_113 rfl ?_
          refine e_dup2 dX3_markValues_115 rfl rfl rfl ?_
          refine e_iald dX3_markValues_116 rfl ps_4 (by decide) rfl (by omega) ?_
          refine e_iload_7 dX3_markValues_117 rfl ?_
          refine e_iload_8 dX3_markValues_119 rfl ?_
          refine e_iushr dX3_markValues_121 rfl ?_
          refine e_iconst (v := nI 1) dX3_markValues_122 rfl ic_1 ?_
          refine e_iand dX3_markValues_123 rfl ?_
          refine e_iload_4 dX3_markValues_124 rfl ?_
          refine e_bipush (v := nI 8) dX3_markValues_126 rfl bc_8 ?_
          refine e_iadd dX3_markValues_128 rfl ?_
          refine e_topi (nI (i + 8)) (nI_add _ _) ?_
          refine e_ishl dX3_markValues_129 rfl ?_
          refine e_ior dX3_markValues_130 rfl ?_
          refine e_iast dX3_markValues_131 rfl ps_4 (by decide) rfl (by omega) ?_
          refine e_iinc_8 (v := nI (v + 1)) dX3_markValues_132 rfl (Nat.le_of_ble_eq_true rfl) rfl (nI_1 v) ?_
          refine e_goto (tgt := 82) dX3_markValues_135 (by decide) ?_
          exact e_mem (mvV_eq _ _ _ _ _) ih2
      refine e_iload_4 dX3_markValues_11 rfl ?_
      refine e_aload_0 dX3_markValues_13 rfl ?_
      refine e_getI dX3_markValues_14 rfl lkX3_116 rfl ps_0 (by decide) (by decide) ?_
      refine e_topi (nI rc) hri ?_
      refine e_nc_ge_f dX3_markValues_17 rfl ⟨144, by decide⟩ (by omega) (by omega) hi ?_
      refine e_aload_0 dX3_markValues_20 rfl ?_
      refine e_getR dX3_markValues_21 rfl lkX3_17 rfl ps_0 (by decide) (by decide) (mr_of hmi rfl) ?_
      refine e_iload_4 dX3_markValues_24 rfl ?_
      refine e_aald dX3_markValues_26 rfl ps_2 (by decide) (by decide) (by decide) rfl (by omega) (mr_of hmi (mr_order _ _)) ?_
      refine e_astore_5 dX3_markValues_27 rfl (Nat.le_of_ble_eq_true rfl) rfl ?_
      refine e_aload_5 dX3_markValues_29 rfl ?_
      refine e_aload_0 dX3_markValues_31 rfl ?_
      refine e_getI dX3_markValues_32 rfl lkX3_143 rfl ps_0 (by decide) (by decide) ?_
      refine e_callN dX3_markValues_35 rfl csX3_170 (s_lastsOn hf (hod _ (by omega))) rfl rfl (ps_R (hod _ (by omega))) (by decide) (lt_RU (hod _ (by omega))) ⟨Nat.le_of_ble_eq_true rfl, Nat.le_of_ble_eq_true rfl⟩ ⟨Nat.le_of_ble_eq_true rfl, Nat.le_of_ble_eq_true rfl⟩ rfl rfl (Nat.le_of_ble_eq_true rfl) ?_
      refine e_if_eq_f dX3_markValues_38 rfl ⟨138, by decide⟩ (bI1 h1) ?_
      refine e_aload_5 dX3_markValues_41 rfl ?_
      refine e_getR dX3_markValues_43 rfl lkX3_262 rfl (ps_R (hod _ (by omega))) (by decide) (lt_RU (hod _ (by omega))) (mr_of hmi (mr_R9 _ (hod _ (by omega)))) ?_
      refine e_iload_1 dX3_markValues_46 rfl ?_
      refine e_iald dX3_markValues_47 rfl (ps_M (hod _ (by omega))) (lt_RM (hod _ (by omega))) rfl (by omega) ?_
      refine e_istore_6 dX3_markValues_48 rfl (Nat.le_of_ble_eq_true rfl) rfl ?_
      refine e_iload_6 dX3_markValues_50 rfl ?_
      refine e_istore_7 dX3_markValues_52 rfl (Nat.le_of_ble_eq_true rfl) rfl ?_
      refine e_iload_3 dX3_markValues_54 rfl ?_
      by_cases h2 : fv = 0
      · refine e_if_eq_t (tgt := 79) dX3_markValues_55 (by decide) h2 ?_
        refine e_iconst (v := nI 0) dX3_markValues_79 rfl ic_0 ?_
        refine e_istore_8 dX3_markValues_80 rfl (Nat.le_of_ble_eq_true rfl) rfl ?_
        refine e_loc ?_ (H 0 (Nat.zero_le 32))
        rw [thF, if_neg (fun z => z.1 h2)]
      · obtain ⟨k, hk, rfl⟩ := hob.resolve_left h2
        have e1 : ixN (nI k) = k := ixN_nI hk
        by_cases h3 : ionF Mi (Mi.1 (32 + 3 * od i) fld) k = true
        · refine e_if_eq_f dX3_markValues_55 rfl ⟨79, by decide⟩ h2 ?_
          refine e_aload_0 dX3_markValues_58 rfl ?_
          refine e_aload_5 dX3_markValues_59 rfl ?_
          refine e_getR dX3_markValues_61 rfl lkX3_119 rfl (ps_R (hod _ (by omega))) (by decide) (lt_RU (hod _ (by omega))) (mr_of hmi (mr_R8 _ (hod _ (by omega)))) ?_
          refine e_iload_1 dX3_markValues_64 rfl ?_
          refine e_iald dX3_markValues_65 rfl (ps_B (hod _ (by omega))) (lt_RB (hod _ (by omega))) rfl (by omega) ?_
          refine e_iload_2 dX3_markValues_66 rfl ?_
          refine e_callV dX3_markValues_67 rfl csX3_122 (s_isOrNeeds hf hmi hoi hk) rfl rfl ps_0 (by decide) (by decide) ⟨Nat.le_of_ble_eq_true rfl, Nat.le_of_ble_eq_true rfl⟩ ⟨Nat.le_of_ble_eq_true rfl, Nat.le_of_ble_eq_true rfl⟩ rfl rfl (Nat.le_of_ble_eq_true rfl) ?_
          refine e_if_eq_f dX3_markValues_70 rfl ⟨79, by decide⟩ (bI1 h3) ?_
          refine e_iload_7 dX3_markValues_73 rfl ?_
          refine e_iload_3 dX3_markValues_75 rfl ?_
          refine e_ior dX3_markValues_76 rfl ?_
          refine e_istore_7 dX3_markValues_77 rfl (Nat.le_of_ble_eq_true rfl) rfl ?_
          refine e_iconst (v := nI 0) dX3_markValues_79 rfl ic_0 ?_
          refine e_istore_8 dX3_markValues_80 rfl (Nat.le_of_ble_eq_true rfl) rfl ?_
          refine e_loc ?_ (H 0 (Nat.zero_le 32))
          rw [thF, e1, if_pos ⟨h2, h3⟩]
        · refine e_if_eq_f dX3_markValues_55 rfl ⟨79, by decide⟩ h2 ?_
          refine e_aload_0 dX3_markValues_58 rfl ?_
          refine e_aload_5 dX3_markValues_59 rfl ?_
          refine e_getR dX3_markValues_61 rfl lkX3_119 rfl (ps_R (hod _ (by omega))) (by decide) (lt_RU (hod _ (by omega))) (mr_of hmi (mr_R8 _ (hod _ (by omega)))) ?_
          refine e_iload_1 dX3_markValues_64 rfl ?_
          refine e_iald dX3_markValues_65 rfl (ps_B (hod _ (by omega))) (lt_RB (hod _ (by omega))) rfl (by omega) ?_
          refine e_iload_2 dX3_markValues_66 rfl ?_
          refine e_callV dX3_markValues_67 rfl csX3_122 (s_isOrNeeds hf hmi hoi hk) rfl rfl ps_0 (by decide) (by decide) ⟨Nat.le_of_ble_eq_true rfl, Nat.le_of_ble_eq_true rfl⟩ ⟨Nat.le_of_ble_eq_true rfl, Nat.le_of_ble_eq_true rfl⟩ rfl rfl (Nat.le_of_ble_eq_true rfl) ?_
          refine e_if_eq_t (tgt := 79) dX3_markValues_70 (by decide) (bI0 (Bool.not_eq_true _ |>.mp h3)) ?_
          refine e_iconst (v := nI 0) dX3_markValues_79 rfl ic_0 ?_
          refine e_istore_8 dX3_markValues_80 rfl (Nat.le_of_ble_eq_true rfl) rfl ?_
          refine e_loc ?_ (H 0 (Nat.zero_le 32))
          rw [thF, e1, if_neg (fun z => h3 z.2)]
    · have ih := e_mem (if_neg h1).symm ih
      refine e_iload_4 dX3_markValues_11 rfl ?_
      refine e_aload_0 dX3_markValues_13 rfl ?_
      refine e_getI dX3_markValues_14 rfl lkX3_116 rfl ps_0 (by decide) (by decide) ?_
      refine e_topi (nI rc) hri ?_
      refine e_nc_ge_f dX3_markValues_17 rfl ⟨144, by decide⟩ (by omega) (by omega) hi ?_
      refine e_aload_0 dX3_markValues_20 rfl ?_
      refine e_getR dX3_markValues_21 rfl lkX3_17 rfl ps_0 (by decide) (by decide) (mr_of hmi rfl) ?_
      refine e_iload_4 dX3_markValues_24 rfl ?_
      refine e_aald dX3_markValues_26 rfl ps_2 (by decide) (by decide) (by decide) rfl (by omega) (mr_of hmi (mr_order _ _)) ?_
      refine e_astore_5 dX3_markValues_27 rfl (Nat.le_of_ble_eq_true rfl) rfl ?_
      refine e_aload_5 dX3_markValues_29 rfl ?_
      refine e_aload_0 dX3_markValues_31 rfl ?_
      refine e_getI dX3_markValues_32 rfl lkX3_143 rfl ps_0 (by decide) (by decide) ?_
      refine e_callN dX3_markValues_35 rfl csX3_170 (s_lastsOn hf (hod _ (by omega))) rfl rfl (ps_R (hod _ (by omega))) (by decide) (lt_RU (hod _ (by omega))) ⟨Nat.le_of_ble_eq_true rfl, Nat.le_of_ble_eq_true rfl⟩ ⟨Nat.le_of_ble_eq_true rfl, Nat.le_of_ble_eq_true rfl⟩ rfl rfl (Nat.le_of_ble_eq_true rfl) ?_
      refine e_if_eq_t (tgt := 138) dX3_markValues_38 (by decide) (bI0 (Bool.not_eq_true _ |>.mp h1)) ?_
      refine e_iinc_4 (v := nI (i + 1)) dX3_markValues_138 rfl (Nat.le_of_ble_eq_true rfl) rfl (nI_1 i) ?_
      refine e_goto (tgt := 11) dX3_markValues_141 (by decide) ?_
      refine e_weak (weak_c (weak_c (weak_c (weak_c (weak_c (weak_n weak_nil)))))) ?_
      exact ih
