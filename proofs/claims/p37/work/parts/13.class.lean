/-! ===== FilterRules: what its private methods answer ===== -/
theorem bI0 {b : Bool} (h : b = false) : bI b = 0 := by rw [bI_f h]; rfl
theorem bI1 {b : Bool} (h : b = true) : ¬ bI b = 0 := by rw [bI_t h]; decide
def orN (f : Nat → Int32) : Nat → Int32
  | 0 => nI 0
  | n + 1 => orN f n ||| f n
def orIf (b : Nat → Bool) (g : Nat → Int32) (s : Int32) : Nat → Int32
  | 0 => s
  | n + 1 => if b n = true then orIf b g s n ||| g n else orIf b g s n
theorem orIf_t {b : Nat → Bool} {g : Nat → Int32} {s : Int32} {n : Nat} (h : b n = true) : orIf b g s (n + 1) = orIf b g s n ||| g n := if_pos h
theorem orIf_f {b : Nat → Bool} {g : Nat → Int32} {s : Int32} {n : Nat} (h : b n = false) : orIf b g s (n + 1) = orIf b g s n := if_neg (by rw [h]; decide)
/-- the values of an object, to a depth; rg: how many ranges each has -/
def voF (M : pmM) (rg : Nat → Nat) : Nat → Nat → Int32
  | 0, _ => nI 0
  | f + 1, o => orIf (hasb (M.1 (15 + 2 * o) 2)) (voF M rg f) (orN (M.1 (16 + 2 * o)) (rg o)) 8
def anyB (b : Nat → Bool) : Nat → Bool
  | 0 => false
  | n + 1 => anyB b n || b n
theorem anyB_iff (b : Nat → Bool) : ∀ n, anyB b n = true ↔ ∃ i, i < n ∧ b i = true
  | 0 => by simp [anyB]
  | n + 1 => by
    rw [anyB, Bool.or_eq_true, anyB_iff b n]
    constructor
    · rintro (⟨i, h1, h2⟩ | h)
      · exact ⟨i, by omega, h2⟩
      · exact ⟨n, by omega, h⟩
    · rintro ⟨i, h1, h2⟩
      by_cases e : i = n
      · exact Or.inr (e ▸ h2)
      · exact Or.inl ⟨i, by omega, h2⟩
def ndF (M : pmM) : Nat → Nat → Nat → Bool
  | 0, _, _ => false
  | f + 1, o, x => hasb (M.1 (15 + 2 * o) 2) x || anyB (fun i => hasb (M.1 (15 + 2 * o) 2) i && ndF M f i x) 8
/-- whether the rule at a position is in force -/
def inF (M : pmM) (od : Nat → Nat) (p : Nat) : Bool := lastF (M.1 (31 + 3 * od p) 3) (M.1 0 5)
def maF (M : pmM) (j a b c : Nat) : Bool := hasb (M.1 (33 + 3 * j) 0) a && (hasb (M.1 (33 + 3 * j) 1) b && hasb (M.1 (33 + 3 * j) 2) c)
def pkE (a b c : Int32) : Int32 := bcE a * bcE b * bcE c
def foE (x : Int32) : Int32 := minF (bcE ((x &&& -x) - nI 1)) (nI 8)
def fo (m : Nat) : Nat := if m.testBit 0 then 0 else if m.testBit 1 then 1 else if m.testBit 2 then 2 else if m.testBit 3 then 3 else if m.testBit 4 then 4 else if m.testBit 5 then 5 else if m.testBit 6 then 6 else if m.testBit 7 then 7 else 8
def clr (m f : Nat) : Nat := m &&& (255 - 2 ^ f)
def pcn (m : Nat) : Nat := (List.range 8).countP (fun i => m.testBit i)
theorem foE_eq {m : Nat} (h : m < 256) : foE (nI m) = nI (fo m) := (show ∀ m, m < 256 → foE (nI m) = nI (fo m) by decide +kernel) m h
theorem fo_le (m : Nat) : fo m ≤ 8 := by
  unfold fo
  repeat' split
  all_goals omega
theorem clr_eq {m f : Nat} (h : m < 256) (hf : f < 8) : nI m &&& ((nI 1 <<< (nI f &&& 31)) ^^^ (-1)) = nI (clr m f) := (show ∀ m, m < 256 → ∀ f, f < 8 → nI m &&& ((nI 1 <<< (nI f &&& 31)) ^^^ (-1)) = nI (clr m f) by decide +kernel) m h f hf
theorem clr_lt {m f : Nat} (h : m < 256) : clr m f < 256 := Nat.lt_of_le_of_lt Nat.and_le_left h
theorem clr_pc {m : Nat} (h : m < 256) (hf : fo m < 8) : pcn (clr m (fo m)) < pcn m := (show ∀ m, m < 256 → fo m < 8 → pcn (clr m (fo m)) < pcn m by decide +kernel) m h hf
theorem pcn_le (m : Nat) : pcn m ≤ 8 := by unfold pcn; exact List.countP_le_length
def ifN (b : Nat → Bool) : Nat → Nat
  | 0 => 0
  | n + 1 => if b n = true then ifN b n + 2 ^ n else ifN b n
theorem ifN_lt (b : Nat → Bool) : ∀ n, ifN b n < 2 ^ n
  | 0 => by simp [ifN]
  | n + 1 => by
    have := ifN_lt b n
    rw [ifN, Nat.pow_succ]
    split <;> omega
theorem ifN_or {a i : Nat} (hi : i < 8) (ha : a < 2 ^ i) : nI a ||| (nI 1 <<< (nI i &&& 31)) = nI (a + 2 ^ i) := (show ∀ i, i < 8 → ∀ a, a < 256 → a < 2 ^ i → nI a ||| (nI 1 <<< (nI i &&& 31)) = nI (a + 2 ^ i) by decide +kernel) i hi a (Nat.lt_of_lt_of_le ha (Nat.le_trans (Nat.pow_le_pow_right (by decide) (Nat.le_of_lt hi)) (by decide))) ha
/-- what the rules at the positions m leave of a piece -/
def loE (M : pmM) (od : Nat → Nat) : Nat → Nat → Int32 → Int32 → Int32 → Int32
  | 0, _, _, _, _ => 0
  | f + 1, m, s, t, v => if s = 0 ∨ t = 0 ∨ v = 0 then nI 0 else if 8 ≤ fo m then pkE s t v else
      loE M od f (clr m (fo m)) (s &&& (M.1 (33 + 3 * od (fo m)) 0 ^^^ (-1))) t v
      + loE M od f (clr m (fo m)) (s &&& M.1 (33 + 3 * od (fo m)) 0) (t &&& (M.1 (33 + 3 * od (fo m)) 1 ^^^ (-1))) v
      + loE M od f (clr m (fo m)) (s &&& M.1 (33 + 3 * od (fo m)) 0) (t &&& M.1 (33 + 3 * od (fo m)) 1) (v &&& (M.1 (33 + 3 * od (fo m)) 2 ^^^ (-1)))

theorem s_ownValues {l : Launch} (hf : l.stackTraces = false) {M : pmM} {od : Nat → Nat} (hmr : M.2.1 = mrC od) {rg : Nat → Nat} (hrg : ∀ o, o < 8 → M.1 (15 + 2 * o) 1 = nI (rg o) ∧ rg o ≤ 3) {o : Nat} (ho : o < 8) : Sp l kX2_ownValues 64 0 0 0 [.ref (15 + 2 * o)] M (.inl (some (.int (orN (M.1 (16 + 2 * o)) (rg o))))) M := by
  refine sp_of hf (by decide +kernel) (Nat.le_of_ble_eq_true rfl) (by intro v hv; simp at hv; subst hv; rfl) rfl ?_
  obtain ⟨hr1, hr2⟩ := hrg o ho
  refine e_iconst (v := nI 0) dX2_ownValues_0 rfl ic_0 ?_
  refine e_istore_1 dX2_ownValues_1 rfl (Nat.le_of_ble_eq_true rfl) rfl ?_
  refine e_iconst (v := nI 0) dX2_ownValues_2 rfl ic_0 ?_
  refine e_istore_2 dX2_ownValues_3 rfl (Nat.le_of_ble_eq_true rfl) rfl ?_
  refine loop_up (P := fun i => Ev l kX2_ownValues (gM 64 0 0 (.inl (some (.int (orN (M.1 (16 + 2 * o)) (rg o))))) M) (rmd 0 0 0) 64 0 0 4 [some (.ref (15 + 2 * o)), some (.int (orN (M.1 (16 + 2 * o)) i)), some (.int (nI i))] [] M) ?_ (fun i hi ih => ?_) 0 (Nat.zero_le (rg o))
  · refine e_iload_2 dX2_ownValues_4 rfl ?_
    refine e_aload_0 dX2_ownValues_5 rfl ?_
    refine e_getI dX2_ownValues_6 rfl lkX2_15 rfl (ps_O ho) (by decide) (lt_VS ho) ?_
    refine e_topi (nI (rg o)) hr1 ?_
    refine e_nc_ge_t (tgt := 27) dX2_ownValues_9 (by decide) (by omega) (by omega) (Nat.le_refl _) ?_
    refine e_iload_1 dX2_ownValues_27 rfl ?_
    exact e_iret dX2_ownValues_28 rfl rfl (Nat.le_of_ble_eq_true rfl) (Nat.le_of_ble_eq_true rfl) rfl rfl
  · refine e_iload_2 dX2_ownValues_4 rfl ?_
    refine e_aload_0 dX2_ownValues_5 rfl ?_
    refine e_getI dX2_ownValues_6 rfl lkX2_15 rfl (ps_O ho) (by decide) (lt_VS ho) ?_
    refine e_topi (nI (rg o)) hr1 ?_
    refine e_nc_ge_f dX2_ownValues_9 rfl ⟨27, by decide⟩ (by omega) (by omega) hi ?_
    refine e_iload_1 dX2_ownValues_12 rfl ?_
    refine e_aload_0 dX2_ownValues_13 rfl ?_
    refine e_getR dX2_ownValues_14 rfl lkX2_9 rfl (ps_O ho) (by decide) (lt_VS ho) (mr_of hmr (mr_O _ ho)) ?_
    refine e_iload_2 dX2_ownValues_17 rfl ?_
    refine e_iald dX2_ownValues_18 rfl (ps_G ho) (lt_VR ho) rfl (by omega) ?_
    refine e_ior dX2_ownValues_19 rfl ?_
    refine e_istore_1 dX2_ownValues_20 rfl (Nat.le_of_ble_eq_true rfl) rfl ?_
    refine e_iinc_2 (v := nI (i + 1)) dX2_ownValues_21 rfl (Nat.le_of_ble_eq_true rfl) rfl (nI_1 i) ?_
    refine e_goto (tgt := 4) dX2_ownValues_24 (by decide) ?_
    exact ih
theorem s_valuesOf {l : Launch} (hf : l.stackTraces = false) {M : pmM} {od : Nat → Nat} (hmr : M.2.1 = mrC od) {rg : Nat → Nat} (hrg : ∀ o, o < 8 → M.1 (15 + 2 * o) 1 = nI (rg o) ∧ rg o ≤ 3) : ∀ (f : Nat) (o dp : Nat), o < 8 → dp + f = 8 → Sp l kX3_valuesOf 64 (f + 1) 0 0 [.ref 1, .int (nI o), .int (nI dp)] M (.inl (some (.int (voF M rg f o)))) M := by
  intro f
  induction f with
  | zero =>
    intro o dp ho hdp
    refine sp_of hf (by decide +kernel) (Nat.le_of_ble_eq_true rfl) (by intro v hv; simp at hv; rcases hv with rfl | rfl | rfl <;> rfl) rfl ?_
    refine e_iload_2 dX3_valuesOf_0 rfl ?_
    refine e_bipush (v := nI 8) dX3_valuesOf_1 rfl bc_8 ?_
    refine e_nc_lt_f dX3_valuesOf_3 rfl ⟨8, by decide⟩ (by omega) (by omega) (by omega) ?_
    refine e_iconst (v := nI 0) dX3_valuesOf_6 rfl ic_0 ?_
    exact e_iret dX3_valuesOf_7 rfl rfl (Nat.le_of_ble_eq_true rfl) (Nat.le_of_ble_eq_true rfl) rfl rfl
  | succ f ihf =>
    intro o dp ho hdp
    refine sp_of hf (by decide +kernel) (Nat.le_of_ble_eq_true rfl) (by intro v hv; simp at hv; rcases hv with rfl | rfl | rfl <;> rfl) rfl ?_
    refine e_iload_2 dX3_valuesOf_0 rfl ?_
    refine e_bipush (v := nI 8) dX3_valuesOf_1 rfl bc_8 ?_
    refine e_nc_lt_t (tgt := 8) dX3_valuesOf_3 (by decide) (by omega) (by omega) (by omega) ?_
    refine e_aload_0 dX3_valuesOf_8 rfl ?_
    refine e_iload_1 dX3_valuesOf_9 rfl ?_
    refine e_aald dX3_valuesOf_10 rfl ps_1 (by decide) (by decide) (by decide) rfl (by omega) (mr_of hmr (mr_sets _ _)) ?_
    refine e_callN dX3_valuesOf_11 rfl csX3_259 (s_ownValues hf hmr hrg ho) rfl rfl (ps_O ho) (by decide) (lt_VS ho) ⟨show 10 * 0 + 1 ≤ 10 * (f + 1 + 1) by omega, show 8 + (3 + 11) + 128 * 0 ≤ 128 * (f + 1 + 1) by omega⟩ ⟨Nat.le_of_ble_eq_true rfl, Nat.le_of_ble_eq_true rfl⟩ rfl rfl (Nat.le_of_ble_eq_true rfl) ?_
    refine e_istore_3 dX3_valuesOf_14 rfl (Nat.le_of_ble_eq_true rfl) rfl ?_
    refine e_iconst (v := nI 0) dX3_valuesOf_15 rfl ic_0 ?_
    refine e_istore_4 dX3_valuesOf_16 rfl (Nat.le_of_ble_eq_true rfl) rfl ?_
    refine loop_up (P := fun i => Ev l kX3_valuesOf (gM 64 0 0 (.inl (some (.int (voF M rg (f + 1) o)))) M) (rmd (f + 1 + 1) 0 0) 64 0 0 18 [some (.ref 1), some (.int (nI o)), some (.int (nI dp)), some (.int (orIf (hasb (M.1 (15 + 2 * o) 2)) (voF M rg f) (orN (M.1 (16 + 2 * o)) (rg o)) i)), some (.int (nI i))] [] M) ?_ (fun i hi ih => ?_) 0 (Nat.zero_le 8)
    · refine e_iload_4 dX3_valuesOf_18 rfl ?_
      refine e_bipush (v := nI 8) dX3_valuesOf_20 rfl bc_8 ?_
      refine e_nc_ge_t (tgt := 57) dX3_valuesOf_22 (by decide) (by omega) (by omega) (Nat.le_refl 8) ?_
      refine e_iload_3 dX3_valuesOf_57 rfl ?_
      exact e_iret dX3_valuesOf_58 rfl rfl (Nat.le_of_ble_eq_true rfl) (Nat.le_of_ble_eq_true rfl) rfl rfl
    · by_cases hb : hasb (M.1 (15 + 2 * o) 2) i = true
      · refine e_iload_4 dX3_valuesOf_18 rfl ?_
        refine e_bipush (v := nI 8) dX3_valuesOf_20 rfl bc_8 ?_
        refine e_nc_ge_f dX3_valuesOf_22 rfl ⟨57, by decide⟩ (by omega) (by omega) hi ?_
        refine e_aload_0 dX3_valuesOf_25 rfl ?_
        refine e_iload_1 dX3_valuesOf_26 rfl ?_
        refine e_aald dX3_valuesOf_27 rfl ps_1 (by decide) (by decide) (by decide) rfl (by omega) (mr_of hmr (mr_sets _ _)) ?_
        refine e_getI dX3_valuesOf_28 rfl lkX3_75 rfl (ps_O ho) (by decide) (lt_VS ho) ?_
        refine e_iload_4 dX3_valuesOf_31 rfl ?_
        refine e_callS dX3_valuesOf_33 rfl csX3_78 (s_contains hf (k := i) (by omega)) rfl rfl ⟨show 10 * 0 + 1 ≤ 10 * (f + 1 + 1) by omega, show 8 + (2 + 11) + 128 * 0 ≤ 128 * (f + 1 + 1) by omega⟩ ⟨Nat.le_of_ble_eq_true rfl, Nat.le_of_ble_eq_true rfl⟩ rfl rfl (Nat.le_of_ble_eq_true rfl) ?_
        refine e_if_eq_f dX3_valuesOf_36 rfl ⟨51, by decide⟩ (bI1 hb) ?_
        refine e_iload_3 dX3_valuesOf_39 rfl ?_
        refine e_aload_0 dX3_valuesOf_40 rfl ?_
        refine e_iload_4 dX3_valuesOf_41 rfl ?_
        refine e_iload_2 dX3_valuesOf_43 rfl ?_
        refine e_iconst (v := nI 1) dX3_valuesOf_44 rfl ic_1 ?_
        refine e_iadd dX3_valuesOf_45 rfl ?_
        refine e_topi (nI (dp + 1)) (nI_add _ _) ?_
        refine e_callS dX3_valuesOf_46 rfl csX3_109 (ihf i (dp + 1) hi (by omega)) rfl rfl ⟨show 10 * (f + 1) + 1 ≤ 10 * (f + 1 + 1) by omega, show 8 + (5 + 11) + 128 * (f + 1) ≤ 128 * (f + 1 + 1) by omega⟩ ⟨Nat.le_of_ble_eq_true rfl, Nat.le_of_ble_eq_true rfl⟩ rfl rfl (Nat.le_of_ble_eq_true rfl) ?_
        refine e_ior dX3_valuesOf_49 rfl ?_
        refine e_istore_3 dX3_valuesOf_50 rfl (Nat.le_of_ble_eq_true rfl) rfl ?_
        refine e_iinc_4 (v := nI (i + 1)) dX3_valuesOf_51 rfl (Nat.le_of_ble_eq_true rfl) rfl (nI_1 i) ?_
        refine e_goto (tgt := 18) dX3_valuesOf_54 (by decide) ?_
        refine e_loc ?_ ih
        rw [orIf_t hb]
      · refine e_iload_4 dX3_valuesOf_18 rfl ?_
        refine e_bipush (v := nI 8) dX3_valuesOf_20 rfl bc_8 ?_
        refine e_nc_ge_f dX3_valuesOf_22 rfl ⟨57, by decide⟩ (by omega) (by omega) hi ?_
        refine e_aload_0 dX3_valuesOf_25 rfl ?_
        refine e_iload_1 dX3_valuesOf_26 rfl ?_
        refine e_aald dX3_valuesOf_27 rfl ps_1 (by decide) (by decide) (by decide) rfl (by omega) (mr_of hmr (mr_sets _ _)) ?_
        refine e_getI dX3_valuesOf_28 rfl lkX3_75 rfl (ps_O ho) (by decide) (lt_VS ho) ?_
        refine e_iload_4 dX3_valuesOf_31 rfl ?_
        refine e_callS dX3_valuesOf_33 rfl csX3_78 (s_contains hf (k := i) (by omega)) rfl rfl ⟨show 10 * 0 + 1 ≤ 10 * (f + 1 + 1) by omega, show 8 + (2 + 11) + 128 * 0 ≤ 128 * (f + 1 + 1) by omega⟩ ⟨Nat.le_of_ble_eq_true rfl, Nat.le_of_ble_eq_true rfl⟩ rfl rfl (Nat.le_of_ble_eq_true rfl) ?_
        refine e_if_eq_t (tgt := 51) dX3_valuesOf_36 (by decide) (bI0 (Bool.not_eq_true _ |>.mp hb)) ?_
        refine e_iinc_4 (v := nI (i + 1)) dX3_valuesOf_51 rfl (Nat.le_of_ble_eq_true rfl) rfl (nI_1 i) ?_
        refine e_goto (tgt := 18) dX3_valuesOf_54 (by decide) ?_
        refine e_loc ?_ ih
        rw [orIf_f (Bool.not_eq_true _ |>.mp hb)]
theorem s_needs {l : Launch} (hf : l.stackTraces = false) {M : pmM} {od : Nat → Nat} (hmr : M.2.1 = mrC od) : ∀ (f : Nat) (o x dp : Nat), o < 8 → x < 8 → dp + f = 8 → Sp l kX3_needs 64 (f + 1) 0 0 [.ref 1, .int (nI o), .int (nI x), .int (nI dp)] M (.inl (some (.int (bI (ndF M f o x))))) M := by
  intro f
  induction f with
  | zero =>
    intro o x dp ho hx hdp
    refine sp_of hf (by decide +kernel) (Nat.le_of_ble_eq_true rfl) (by intro v hv; simp at hv; rcases hv with rfl | rfl | rfl | rfl <;> rfl) rfl ?_
    refine e_iload_3 dX3_needs_0 rfl ?_
    refine e_bipush (v := nI 8) dX3_needs_1 rfl bc_8 ?_
    refine e_nc_lt_f dX3_needs_3 rfl ⟨8, by decide⟩ (by omega) (by omega) (by omega) ?_
    refine e_iconst (v := nI 0) dX3_needs_6 rfl ic_0 ?_
    exact e_iret dX3_needs_7 rfl rfl (Nat.le_of_ble_eq_true rfl) (Nat.le_of_ble_eq_true rfl) rfl rfl
  | succ f ihf =>
    intro o x dp ho hx hdp
    refine sp_of hf (by decide +kernel) (Nat.le_of_ble_eq_true rfl) (by intro v hv; simp at hv; rcases hv with rfl | rfl | rfl | rfl <;> rfl) rfl ?_
    by_cases h0 : hasb (M.1 (15 + 2 * o) 2) x = true
    · refine e_iload_3 dX3_needs_0 rfl ?_
      refine e_bipush (v := nI 8) dX3_needs_1 rfl bc_8 ?_
      refine e_nc_lt_t (tgt := 8) dX3_needs_3 (by decide) (by omega) (by omega) (by omega) ?_
      refine e_aload_0 dX3_needs_8 rfl ?_
      refine e_iload_1 dX3_needs_9 rfl ?_
      refine e_aald dX3_needs_10 rfl ps_1 (by decide) (by decide) (by decide) rfl (by omega) (mr_of hmr (mr_sets _ _)) ?_
      refine e_getI dX3_needs_11 rfl lkX3_75 rfl (ps_O ho) (by decide) (lt_VS ho) ?_
      refine e_istore_4 dX3_needs_14 rfl (Nat.le_of_ble_eq_true rfl) rfl ?_
      refine e_iload_4 dX3_needs_16 rfl ?_
      refine e_iload_2 dX3_needs_18 rfl ?_
      refine e_callS dX3_needs_19 rfl csX3_78 (s_contains hf (k := x) (by omega)) rfl rfl ⟨show 10 * 0 + 1 ≤ 10 * (f + 1 + 1) by omega, show 8 + (2 + 11) + 128 * 0 ≤ 128 * (f + 1 + 1) by omega⟩ ⟨Nat.le_of_ble_eq_true rfl, Nat.le_of_ble_eq_true rfl⟩ rfl rfl (Nat.le_of_ble_eq_true rfl) ?_
      refine e_if_eq_f dX3_needs_22 rfl ⟨27, by decide⟩ (bI1 h0) ?_
      refine e_iconst (v := nI 1) dX3_needs_25 rfl ic_1 ?_
      exact e_iret dX3_needs_26 rfl rfl (Nat.le_of_ble_eq_true rfl) (Nat.le_of_ble_eq_true rfl) (bI_t (by rw [ndF, h0]; rfl)).symm rfl
    · refine e_iload_3 dX3_needs_0 rfl ?_
      refine e_bipush (v := nI 8) dX3_needs_1 rfl bc_8 ?_
      refine e_nc_lt_t (tgt := 8) dX3_needs_3 (by decide) (by omega) (by omega) (by omega) ?_
      refine e_aload_0 dX3_needs_8 rfl ?_
      refine e_iload_1 dX3_needs_9 rfl ?_
      refine e_aald dX3_needs_10 rfl ps_1 (by decide) (by decide) (by decide) rfl (by omega) (mr_of hmr (mr_sets _ _)) ?_
      refine e_getI dX3_needs_11 rfl lkX3_75 rfl (ps_O ho) (by decide) (lt_VS ho) ?_
      refine e_istore_4 dX3_needs_14 rfl (Nat.le_of_ble_eq_true rfl) rfl ?_
      refine e_iload_4 dX3_needs_16 rfl ?_
      refine e_iload_2 dX3_needs_18 rfl ?_
      refine e_callS dX3_needs_19 rfl csX3_78 (s_contains hf (k := x) (by omega)) rfl rfl ⟨show 10 * 0 + 1 ≤ 10 * (f + 1 + 1) by omega, show 8 + (2 + 11) + 128 * 0 ≤ 128 * (f + 1 + 1) by omega⟩ ⟨Nat.le_of_ble_eq_true rfl, Nat.le_of_ble_eq_true rfl⟩ rfl rfl (Nat.le_of_ble_eq_true rfl) ?_
      refine e_if_eq_t (tgt := 27) dX3_needs_22 (by decide) (bI0 (Bool.not_eq_true _ |>.mp h0)) ?_
      refine e_iconst (v := nI 0) dX3_needs_27 rfl ic_0 ?_
      refine e_istore_5 dX3_needs_28 rfl (Nat.le_of_ble_eq_true rfl) rfl ?_
      have hN : ∀ i, i ≤ 8 → anyB (fun i => hasb (M.1 (15 + 2 * o) 2) i && ndF M f i x) i = true → ndF M (f + 1) o x = true := fun i hi h => by
        rw [ndF, Bool.or_eq_true, anyB_iff]
        obtain ⟨k, h1, h2⟩ := (anyB_iff _ _).mp h
        exact Or.inr ⟨k, by omega, h2⟩
      refine loop_up (P := fun i => anyB (fun i => hasb (M.1 (15 + 2 * o) 2) i && ndF M f i x) i = false → Ev l kX3_needs (gM 64 0 0 (.inl (some (.int (bI (ndF M (f + 1) o x))))) M) (rmd (f + 1 + 1) 0 0) 64 0 0 30 [some (.ref 1), some (.int (nI o)), some (.int (nI x)), some (.int (nI dp)), some (.int (M.1 (15 + 2 * o) 2)), some (.int (nI i))] [] M) (fun ha => ?_) (fun i hi ih ha => ?_) 0 (Nat.zero_le 8) rfl
      · refine e_iload_5 dX3_needs_30 rfl ?_
        refine e_bipush (v := nI 8) dX3_needs_32 rfl bc_8 ?_
        refine e_nc_ge_t (tgt := 68) dX3_needs_34 (by decide) (by omega) (by omega) (Nat.le_refl 8) ?_
        refine e_iconst (v := nI 0) dX3_needs_68 rfl ic_0 ?_
        exact e_iret dX3_needs_69 rfl rfl (Nat.le_of_ble_eq_true rfl) (Nat.le_of_ble_eq_true rfl) (bI_f (by rw [ndF, ha, Bool.not_eq_true _ |>.mp h0]; rfl)).symm rfl
      · by_cases h1 : hasb (M.1 (15 + 2 * o) 2) i = true
        · by_cases h2 : ndF M f i x = true
          · refine e_iload_5 dX3_needs_30 rfl ?_
            refine e_bipush (v := nI 8) dX3_needs_32 rfl bc_8 ?_
            refine e_nc_ge_f dX3_needs_34 rfl ⟨68, by decide⟩ (by omega) (by omega) hi ?_
            refine e_iload_4 dX3_needs_37 rfl ?_
            refine e_iload_5 dX3_needs_39 rfl ?_
            refine e_callS dX3_needs_41 rfl csX3_78 (s_contains hf (k := i) (by omega)) rfl rfl ⟨show 10 * 0 + 1 ≤ 10 * (f + 1 + 1) by omega, show 8 + (2 + 11) + 128 * 0 ≤ 128 * (f + 1 + 1) by omega⟩ ⟨Nat.le_of_ble_eq_true rfl, Nat.le_of_ble_eq_true rfl⟩ rfl rfl (Nat.le_of_ble_eq_true rfl) ?_
            refine e_if_eq_f dX3_needs_44 rfl ⟨62, by decide⟩ (bI1 h1) ?_
            refine e_aload_0 dX3_needs_47 rfl ?_
            refine e_iload_5 dX3_needs_48 rfl ?_
            refine e_iload_2 dX3_needs_50 rfl ?_
            refine e_iload_3 dX3_needs_51 rfl ?_
            refine e_iconst (v := nI 1) dX3_needs_52 rfl ic_1 ?_
            refine e_iadd dX3_needs_53 rfl ?_
            refine e_topi (nI (dp + 1)) (nI_add _ _) ?_
            refine e_callS dX3_needs_54 rfl csX3_87 (ihf i x (dp + 1) hi hx (by omega)) rfl rfl ⟨show 10 * (f + 1) + 1 ≤ 10 * (f + 1 + 1) by omega, show 8 + (6 + 11) + 128 * (f + 1) ≤ 128 * (f + 1 + 1) by omega⟩ ⟨Nat.le_of_ble_eq_true rfl, Nat.le_of_ble_eq_true rfl⟩ rfl rfl (Nat.le_of_ble_eq_true rfl) ?_
            refine e_if_eq_f dX3_needs_57 rfl ⟨62, by decide⟩ (bI1 h2) ?_
            refine e_iconst (v := nI 1) dX3_needs_60 rfl ic_1 ?_
            exact e_iret dX3_needs_61 rfl rfl (Nat.le_of_ble_eq_true rfl) (Nat.le_of_ble_eq_true rfl) (bI_t (hN (i + 1) hi (by rw [anyB, h1, h2]; simp))).symm rfl
          · refine e_iload_5 dX3_needs_30 rfl ?_
            refine e_bipush (v := nI 8) dX3_needs_32 rfl bc_8 ?_
            refine e_nc_ge_f dX3_needs_34 rfl ⟨68, by decide⟩ (by omega) (by omega) hi ?_
            refine e_iload_4 dX3_needs_37 rfl ?_
            refine e_iload_5 dX3_needs_39 rfl ?_
            refine e_callS dX3_needs_41 rfl csX3_78 (s_contains hf (k := i) (by omega)) rfl rfl ⟨show 10 * 0 + 1 ≤ 10 * (f + 1 + 1) by omega, show 8 + (2 + 11) + 128 * 0 ≤ 128 * (f + 1 + 1) by omega⟩ ⟨Nat.le_of_ble_eq_true rfl, Nat.le_of_ble_eq_true rfl⟩ rfl rfl (Nat.le_of_ble_eq_true rfl) ?_
            refine e_if_eq_f dX3_needs_44 rfl ⟨62, by decide⟩ (bI1 h1) ?_
            refine e_aload_0 dX3_needs_47 rfl ?_
            refine e_iload_5 dX3_needs_48 rfl ?_
            refine e_iload_2 dX3_needs_50 rfl ?_
            refine e_iload_3 dX3_needs_51 rfl ?_
            refine e_iconst (v := nI 1) dX3_needs_52 rfl ic_1 ?_
            refine e_iadd dX3_needs_53 rfl ?_
            refine e_topi (nI (dp + 1)) (nI_add _ _) ?_
            refine e_callS dX3_needs_54 rfl csX3_87 (ihf i x (dp + 1) hi hx (by omega)) rfl rfl ⟨show 10 * (f + 1) + 1 ≤ 10 * (f + 1 + 1) by omega, show 8 + (6 + 11) + 128 * (f + 1) ≤ 128 * (f + 1 + 1) by omega⟩ ⟨Nat.le_of_ble_eq_true rfl, Nat.le_of_ble_eq_true rfl⟩ rfl rfl (Nat.le_of_ble_eq_true rfl) ?_
            refine e_if_eq_t (tgt := 62) dX3_needs_57 (by decide) (bI0 (Bool.not_eq_true _ |>.mp h2)) ?_
            refine e_iinc_5 (v := nI (i + 1)) dX3_needs_62 rfl (Nat.le_of_ble_eq_true rfl) rfl (nI_1 i) ?_
            refine e_goto (tgt := 30) dX3_needs_65 (by decide) ?_
            exact ih (by rw [anyB, ha, Bool.not_eq_true _ |>.mp h2]; simp)
        · refine e_iload_5 dX3_needs_30 rfl ?_
          refine e_bipush (v := nI 8) dX3_needs_32 rfl bc_8 ?_
          refine e_nc_ge_f dX3_needs_34 rfl ⟨68, by decide⟩ (by omega) (by omega) hi ?_
          refine e_iload_4 dX3_needs_37 rfl ?_
          refine e_iload_5 dX3_needs_39 rfl ?_
          refine e_callS dX3_needs_41 rfl csX3_78 (s_contains hf (k := i) (by omega)) rfl rfl ⟨show 10 * 0 + 1 ≤ 10 * (f + 1 + 1) by omega, show 8 + (2 + 11) + 128 * 0 ≤ 128 * (f + 1 + 1) by omega⟩ ⟨Nat.le_of_ble_eq_true rfl, Nat.le_of_ble_eq_true rfl⟩ rfl rfl (Nat.le_of_ble_eq_true rfl) ?_
          refine e_if_eq_t (tgt := 62) dX3_needs_44 (by decide) (bI0 (Bool.not_eq_true _ |>.mp h1)) ?_
          refine e_iinc_5 (v := nI (i + 1)) dX3_needs_62 rfl (Nat.le_of_ble_eq_true rfl) rfl (nI_1 i) ?_
          refine e_goto (tgt := 30) dX3_needs_65 (by decide) ?_
          exact ih (by rw [anyB, ha, Bool.not_eq_true _ |>.mp h1]; simp)
