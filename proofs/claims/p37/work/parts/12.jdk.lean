/-! ===== loops; the JDK's own; the checks of the arguments ===== -/
theorem loop_up {P : Nat → Prop} {N : Nat} (he : P N) (hs : ∀ i, i < N → P (i + 1) → P i) : ∀ i, i ≤ N → P i := by
  intro i hi
  obtain ⟨k, rfl⟩ : ∃ k, N = i + k := ⟨N - i, by omega⟩
  clear hi
  induction k generalizing i with
  | zero => exact he
  | succ k ih => exact hs i (by omega) (ih (i + 1) (by rw [show i + 1 + k = i + (k + 1) by omega]; exact he) (fun j hj => hs j (by omega)))
theorem e_weak {l : Launch} {K : pmKey} {G : pmG} {R : Room} {n u w pc : Nat} {lo lo' : List (Option Value)} {st : List Value} {M : pmM} (h : ∀ (i : Nat) (v : Value), lo'[i]? = some (some v) → lo[i]? = some (some v)) (kk : Ev l K G R n u w pc lo' st M) : Ev l K G R n u w pc lo st M :=
  fun p e s m args below meth c D cy L A H locs ls X hl hP hS => kk p e s m args below meth c D cy L A H locs ls X ⟨hl.1, hl.2.1, fun q hq => by
    obtain ⟨k, v, h1, h2⟩ := (pmPr_mem L lo' 0 q).mp hq
    exact hl.2.2 q ((pmPr_mem L lo 0 q).mpr ⟨k, v, h k v h1, h2⟩)⟩ hP hS
theorem weak_nil {r : List (Option Value)} : ∀ (i : Nat) (v : Value), r[i]? = some (some v) → r[i]? = some (some v) := fun _ _ h => h
theorem weak_c {o : Option Value} {a b : List (Option Value)} (h : ∀ (i : Nat) (v : Value), a[i]? = some (some v) → b[i]? = some (some v)) : ∀ (i : Nat) (v : Value), (o :: a)[i]? = some (some v) → (o :: b)[i]? = some (some v) := fun i v q => by
  cases i with
  | zero => exact q
  | succ i => exact h i v (by simpa using q)
theorem weak_n {o : Option Value} {a b : List (Option Value)} (h : ∀ (i : Nat) (v : Value), a[i]? = some (some v) → b[i]? = some (some v)) : ∀ (i : Nat) (v : Value), (none :: a)[i]? = some (some v) → (o :: b)[i]? = some (some v) := fun i v q => by
  cases i with
  | zero => simp at q
  | succ i => exact h i v (by simpa using q)
def bcE (x : Int32) : Int32 :=
  let a := x - (pmUs x (nI 1) &&& 1431655765)
  let b := (a &&& 858993459) + (pmUs a (nI 2) &&& 858993459)
  let c := (b + pmUs b (nI 4)) &&& 252645135
  let d := c + pmUs c (nI 8)
  (d + pmUs d (nI 16)) &&& nI 63
theorem pm_ext {M : pmM} {f : Nat → Nat → Int32} (h : ∀ a k, M.1 a k = f a k) : M = (f, M.2) := Prod.ext (funext fun a => funext fun k => h a k) rfl
def fillM (M : pmM) (a N : Nat) (v : Int32) : pmM := (fun b k => if b = a ∧ k < N then v else M.1 b k, M.2)
theorem s_bitCount {l : Launch} (hf : l.stackTraces = false) {M : pmM} {x : Int32} : Sp l kJ6_bitCount_0f7a4 64 0 0 0 [.int x] M (.inl (some (.int (bcE x)))) M := by
  refine sp_of hf (by decide +kernel) (Nat.le_of_ble_eq_true rfl) (by intro v hv; simp at hv; subst hv; rfl) rfl ?_
  refine e_iload_0 dJ6_bitCount_0f7a4_0 rfl ?_
  refine e_iload_0 dJ6_bitCount_0f7a4_1 rfl ?_
  refine e_iconst (v := nI 1) dJ6_bitCount_0f7a4_2 rfl ic_1 ?_
  refine e_iushr dJ6_bitCount_0f7a4_3 rfl ?_
  refine e_ldcw dJ6_bitCount_0f7a4_4 rfl kcJ6_265 ?_
  refine e_iand dJ6_bitCount_0f7a4_7 rfl ?_
  refine e_isub dJ6_bitCount_0f7a4_8 rfl ?_
  refine e_istore_0 dJ6_bitCount_0f7a4_9 rfl (Nat.le_of_ble_eq_true rfl) ?_
  refine e_iload_0 dJ6_bitCount_0f7a4_10 rfl ?_
  refine e_ldcw dJ6_bitCount_0f7a4_11 rfl kcJ6_266 ?_
  refine e_iand dJ6_bitCount_0f7a4_14 rfl ?_
  refine e_iload_0 dJ6_bitCount_0f7a4_15 rfl ?_
  refine e_iconst (v := nI 2) dJ6_bitCount_0f7a4_16 rfl ic_2 ?_
  refine e_iushr dJ6_bitCount_0f7a4_17 rfl ?_
  refine e_ldcw dJ6_bitCount_0f7a4_18 rfl kcJ6_266 ?_
  refine e_iand dJ6_bitCount_0f7a4_21 rfl ?_
  refine e_iadd dJ6_bitCount_0f7a4_22 rfl ?_
  refine e_istore_0 dJ6_bitCount_0f7a4_23 rfl (Nat.le_of_ble_eq_true rfl) ?_
  refine e_iload_0 dJ6_bitCount_0f7a4_24 rfl ?_
  refine e_iload_0 dJ6_bitCount_0f7a4_25 rfl ?_
  refine e_iconst (v := nI 4) dJ6_bitCount_0f7a4_26 rfl ic_4 ?_
  refine e_iushr dJ6_bitCount_0f7a4_27 rfl ?_
  refine e_iadd dJ6_bitCount_0f7a4_28 rfl ?_
  refine e_ldcw dJ6_bitCount_0f7a4_29 rfl kcJ6_267 ?_
  refine e_iand dJ6_bitCount_0f7a4_32 rfl ?_
  refine e_istore_0 dJ6_bitCount_0f7a4_33 rfl (Nat.le_of_ble_eq_true rfl) ?_
  refine e_iload_0 dJ6_bitCount_0f7a4_34 rfl ?_
  refine e_iload_0 dJ6_bitCount_0f7a4_35 rfl ?_
  refine e_bipush (v := nI 8) dJ6_bitCount_0f7a4_36 rfl bc_8 ?_
  refine e_iushr dJ6_bitCount_0f7a4_38 rfl ?_
  refine e_iadd dJ6_bitCount_0f7a4_39 rfl ?_
  refine e_istore_0 dJ6_bitCount_0f7a4_40 rfl (Nat.le_of_ble_eq_true rfl) ?_
  refine e_iload_0 dJ6_bitCount_0f7a4_41 rfl ?_
  refine e_iload_0 dJ6_bitCount_0f7a4_42 rfl ?_
  refine e_bipush (v := nI 16) dJ6_bitCount_0f7a4_43 rfl bc_16 ?_
  refine e_iushr dJ6_bitCount_0f7a4_45 rfl ?_
  refine e_iadd dJ6_bitCount_0f7a4_46 rfl ?_
  refine e_istore_0 dJ6_bitCount_0f7a4_47 rfl (Nat.le_of_ble_eq_true rfl) ?_
  refine e_iload_0 dJ6_bitCount_0f7a4_48 rfl ?_
  refine e_bipush (v := nI 63) dJ6_bitCount_0f7a4_49 rfl bc_63 ?_
  refine e_iand dJ6_bitCount_0f7a4_51 rfl ?_
  exact e_iret dJ6_bitCount_0f7a4_52 rfl rfl (Nat.le_of_ble_eq_true rfl) (Nat.le_of_ble_eq_true rfl) rfl rfl
theorem s_fill {l : Launch} (hf : l.stackTraces = false) {M : pmM} {a N : Nat} {v : Int32} (hs : psh a = (5, N)) (ha : a < 64) : Sp l kJ7_fill_53178 64 0 0 0 [.ref a, .int v] M (.inl none) (fillM M a N v) := by
  refine sp_of hf (by decide +kernel) (Nat.le_of_ble_eq_true rfl) (by intro v hv; simp at hv; rcases hv with rfl | rfl <;> rfl) rfl ?_
  have hN : N < 2 ^ 31 := by have := pm_len31 a; rw [hs] at this; exact this
  refine e_iconst (v := nI 0) dJ7_fill_53178_0 rfl ic_0 ?_
  refine e_istore_2 dJ7_fill_53178_1 rfl (Nat.le_of_ble_eq_true rfl) rfl ?_
  refine e_aload_0 dJ7_fill_53178_2 rfl ?_
  refine e_alen dJ7_fill_53178_3 rfl hs (by decide) ha rfl ?_
  refine e_istore_3 dJ7_fill_53178_4 rfl (Nat.le_of_ble_eq_true rfl) rfl ?_
  refine e_mem (M1 := fillM M a 0 v) (pm_ext (fun b k => (if_neg (by omega)).symm)) ?_
  refine loop_up (P := fun i => Ev l kJ7_fill_53178 (gM 64 0 0 (.inl none) (fillM M a N v)) (rmd 0 0 0) 64 0 0 5 [some (.ref a), some (.int v), some (.int (nI i)), some (.int (nI N))] [] (fillM M a i v)) ?_ (fun i hi ih => ?_) 0 (Nat.zero_le N)
  · refine e_iload_2 dJ7_fill_53178_5 rfl ?_
    refine e_iload_3 dJ7_fill_53178_6 rfl ?_
    refine e_nc_ge_t (tgt := 20) dJ7_fill_53178_7 (by decide) (by omega) (by omega) (Nat.le_refl N) ?_
    exact e_vret dJ7_fill_53178_20 rfl (Nat.le_of_ble_eq_true rfl) (Nat.le_of_ble_eq_true rfl) rfl
  · refine e_iload_2 dJ7_fill_53178_5 rfl ?_
    refine e_iload_3 dJ7_fill_53178_6 rfl ?_
    refine e_nc_ge_f dJ7_fill_53178_7 rfl ⟨20, by decide⟩ (by omega) (by omega) hi ?_
    refine e_aload_0 dJ7_fill_53178_10 rfl ?_
    refine e_iload_2 dJ7_fill_53178_11 rfl ?_
    refine e_iload_1 dJ7_fill_53178_12 rfl ?_
    refine e_iast dJ7_fill_53178_13 rfl hs ha rfl (by omega) ?_
    refine e_iinc_2 (v := nI (i + 1)) dJ7_fill_53178_14 rfl (Nat.le_of_ble_eq_true rfl) rfl (nI_1 i) ?_
    refine e_goto (tgt := 5) dJ7_fill_53178_17 (by decide) ?_
    refine e_mem (pm_ext (fun b k => ?_)) ih
    show (if b = a ∧ k = i then v else if b = a ∧ k < i then v else M.1 b k) = if b = a ∧ k < i + 1 then v else M.1 b k
    by_cases h1 : b = a ∧ k = i
    · rw [if_pos h1, if_pos ⟨h1.1, by omega⟩]
    · rw [if_neg h1]
      by_cases h2 : b = a ∧ k < i
      · rw [if_pos h2, if_pos ⟨h2.1, by omega⟩]
      · rw [if_neg h2, if_neg (fun q => h1 ⟨q.1, by have := fun z => h2 ⟨q.1, z⟩; omega⟩)]
/-! checks -/
theorem s_requireObject_ok {l : Launch} (hf : l.stackTraces = false) {M : pmM} {oc : Nat} (hoc : M.1 0 1 = nI oc) (h8 : oc ≤ 8) {o : Nat} (ho : o < oc) : Sp l kX3_requireObject 64 1 1 6 [.ref 0, .int (nI o)] M (.inl none) M := by
  refine sp_of hf (by decide +kernel) (Nat.le_of_ble_eq_true rfl) (by intro v hv; simp at hv; rcases hv with rfl | rfl <;> rfl) rfl ?_
  refine e_iload_1 dX3_requireObject_0 rfl ?_
  refine e_if_lt_f dX3_requireObject_1 rfl ⟨12, by decide⟩ (nI_pos (by omega)) ?_
  refine e_iload_1 dX3_requireObject_4 rfl ?_
  refine e_aload_0 dX3_requireObject_5 rfl ?_
  refine e_getI dX3_requireObject_6 rfl lkX3_39 rfl ps_0 (by decide) (by decide) ?_
  refine e_topi (nI oc) hoc ?_
  refine e_nc_lt_t (tgt := 22) dX3_requireObject_9 (by decide) (by omega) (by omega) ho ?_
  exact e_vret dX3_requireObject_22 rfl (Nat.le_of_ble_eq_true rfl) (Nat.le_of_ble_eq_true rfl) rfl
theorem s_requireObject_no {l : Launch} (hf : l.stackTraces = false) {M : pmM} {oc : Nat} (hoc : M.1 0 1 = nI oc) (h8 : oc ≤ 8) {x : Int32} (hx : ¬ vp_in x oc) : Sp l kX3_requireObject 64 1 1 6 [.ref 0, .int x] M (.inr "java/lang/IndexOutOfBoundsException") M := by
  refine sp_of hf (by decide +kernel) (Nat.le_of_ble_eq_true rfl) (by intro v hv; simp at hv; rcases hv with rfl | rfl <;> rfl) rfl ?_
  refine e_iload_1 dX3_requireObject_0 rfl ?_
  refine e_if_lt (tgt := 12) dX3_requireObject_1 (by decide) rfl (fun hc1 => ?_) (fun hc1 => ?_)
  · exact e_throw dX3_requireObject_12 dX3_requireObject_15 dX3_requireObject_16 dX3_requireObject_18 dX3_requireObject_21 th_125_247_129 rfl ⟨Nat.le_of_ble_eq_true rfl, Nat.le_of_ble_eq_true rfl⟩ (Nat.le_of_ble_eq_true rfl) ⟨Nat.le_of_ble_eq_true rfl, Nat.le_of_ble_eq_true rfl⟩ ⟨Nat.le_of_ble_eq_true rfl, Nat.le_of_ble_eq_true rfl⟩ rfl
  · refine e_iload_1 dX3_requireObject_4 rfl ?_
    refine e_aload_0 dX3_requireObject_5 rfl ?_
    refine e_getI dX3_requireObject_6 rfl lkX3_39 rfl ps_0 (by decide) (by decide) ?_
    refine e_topi (nI oc) hoc ?_
    refine e_ic_lt_f dX3_requireObject_9 rfl ⟨22, by decide⟩ (by
        intro q
        obtain ⟨j, hj, rfl⟩ := nI_of hc1
        exact hx (vp_in_nI ((nI_ltI hj (by omega)).mp q) (by omega))) ?_
    exact e_throw dX3_requireObject_12 dX3_requireObject_15 dX3_requireObject_16 dX3_requireObject_18 dX3_requireObject_21 th_125_247_129 rfl ⟨Nat.le_of_ble_eq_true rfl, Nat.le_of_ble_eq_true rfl⟩ (Nat.le_of_ble_eq_true rfl) ⟨Nat.le_of_ble_eq_true rfl, Nat.le_of_ble_eq_true rfl⟩ ⟨Nat.le_of_ble_eq_true rfl, Nat.le_of_ble_eq_true rfl⟩ rfl
theorem s_requirePosition_ok {l : Launch} (hf : l.stackTraces = false) {M : pmM} {rc : Nat} (hrc : M.1 0 3 = nI rc) (h8 : rc ≤ 8) {p : Nat} (hp : p < rc) : Sp l kX3_requirePosition 64 1 1 6 [.ref 0, .int (nI p)] M (.inl none) M := by
  refine sp_of hf (by decide +kernel) (Nat.le_of_ble_eq_true rfl) (by intro v hv; simp at hv; rcases hv with rfl | rfl <;> rfl) rfl ?_
  refine e_iload_1 dX3_requirePosition_0 rfl ?_
  refine e_if_lt_f dX3_requirePosition_1 rfl ⟨12, by decide⟩ (nI_pos (by omega)) ?_
  refine e_iload_1 dX3_requirePosition_4 rfl ?_
  refine e_aload_0 dX3_requirePosition_5 rfl ?_
  refine e_getI dX3_requirePosition_6 rfl lkX3_116 rfl ps_0 (by decide) (by decide) ?_
  refine e_topi (nI rc) hrc ?_
  refine e_nc_lt_t (tgt := 22) dX3_requirePosition_9 (by decide) (by omega) (by omega) hp ?_
  exact e_vret dX3_requirePosition_22 rfl (Nat.le_of_ble_eq_true rfl) (Nat.le_of_ble_eq_true rfl) rfl
theorem s_requirePosition_no {l : Launch} (hf : l.stackTraces = false) {M : pmM} {rc : Nat} (hrc : M.1 0 3 = nI rc) (h8 : rc ≤ 8) {x : Int32} (hx : ¬ vp_in x rc) : Sp l kX3_requirePosition 64 1 1 6 [.ref 0, .int x] M (.inr "java/lang/IndexOutOfBoundsException") M := by
  refine sp_of hf (by decide +kernel) (Nat.le_of_ble_eq_true rfl) (by intro v hv; simp at hv; rcases hv with rfl | rfl <;> rfl) rfl ?_
  refine e_iload_1 dX3_requirePosition_0 rfl ?_
  refine e_if_lt (tgt := 12) dX3_requirePosition_1 (by decide) rfl (fun hc1 => ?_) (fun hc1 => ?_)
  · exact e_throw dX3_requirePosition_12 dX3_requirePosition_15 dX3_requirePosition_16 dX3_requirePosition_18 dX3_requirePosition_21 th_125_127_129 rfl ⟨Nat.le_of_ble_eq_true rfl, Nat.le_of_ble_eq_true rfl⟩ (Nat.le_of_ble_eq_true rfl) ⟨Nat.le_of_ble_eq_true rfl, Nat.le_of_ble_eq_true rfl⟩ ⟨Nat.le_of_ble_eq_true rfl, Nat.le_of_ble_eq_true rfl⟩ rfl
  · refine e_iload_1 dX3_requirePosition_4 rfl ?_
    refine e_aload_0 dX3_requirePosition_5 rfl ?_
    refine e_getI dX3_requirePosition_6 rfl lkX3_116 rfl ps_0 (by decide) (by decide) ?_
    refine e_topi (nI rc) hrc ?_
    refine e_ic_lt_f dX3_requirePosition_9 rfl ⟨22, by decide⟩ (by
        intro q
        obtain ⟨j, hj, rfl⟩ := nI_of hc1
        exact hx (vp_in_nI ((nI_ltI hj (by omega)).mp q) (by omega))) ?_
    exact e_throw dX3_requirePosition_12 dX3_requirePosition_15 dX3_requirePosition_16 dX3_requirePosition_18 dX3_requirePosition_21 th_125_127_129 rfl ⟨Nat.le_of_ble_eq_true rfl, Nat.le_of_ble_eq_true rfl⟩ (Nat.le_of_ble_eq_true rfl) ⟨Nat.le_of_ble_eq_true rfl, Nat.le_of_ble_eq_true rfl⟩ ⟨Nat.le_of_ble_eq_true rfl, Nat.le_of_ble_eq_true rfl⟩ rfl
theorem s_requireValue_ok {l : Launch} (hf : l.stackTraces = false) {M : pmM} {v : Nat} (hv : v < 32) : Sp l kX3_requireValue 64 1 1 6 [.int (nI v)] M (.inl none) M := by
  refine sp_of hf (by decide +kernel) (Nat.le_of_ble_eq_true rfl) (by intro v hv; simp at hv; subst hv; rfl) rfl ?_
  refine e_iload_0 dX3_requireValue_0 rfl ?_
  refine e_if_lt_f dX3_requireValue_1 rfl ⟨10, by decide⟩ (nI_pos (by omega)) ?_
  refine e_iload_0 dX3_requireValue_4 rfl ?_
  refine e_bipush (v := nI 32) dX3_requireValue_5 rfl bc_32 ?_
  refine e_nc_lt_t (tgt := 20) dX3_requireValue_7 (by decide) (by omega) (by omega) hv ?_
  exact e_vret dX3_requireValue_20 rfl (Nat.le_of_ble_eq_true rfl) (Nat.le_of_ble_eq_true rfl) rfl
theorem s_requireValue_no {l : Launch} (hf : l.stackTraces = false) {M : pmM} {x : Int32} (hx : ¬ vp_in x 32) : Sp l kX3_requireValue 64 1 1 6 [.int x] M (.inr "java/lang/IllegalArgumentException") M := by
  refine sp_of hf (by decide +kernel) (Nat.le_of_ble_eq_true rfl) (by intro v hv; simp at hv; subst hv; rfl) rfl ?_
  refine e_iload_0 dX3_requireValue_0 rfl ?_
  refine e_if_lt (tgt := 10) dX3_requireValue_1 (by decide) rfl (fun hc1 => ?_) (fun hc1 => ?_)
  · exact e_throw dX3_requireValue_10 dX3_requireValue_13 dX3_requireValue_14 dX3_requireValue_16 dX3_requireValue_19 th_82_251_86 rfl ⟨Nat.le_of_ble_eq_true rfl, Nat.le_of_ble_eq_true rfl⟩ (Nat.le_of_ble_eq_true rfl) ⟨Nat.le_of_ble_eq_true rfl, Nat.le_of_ble_eq_true rfl⟩ ⟨Nat.le_of_ble_eq_true rfl, Nat.le_of_ble_eq_true rfl⟩ rfl
  · refine e_iload_0 dX3_requireValue_4 rfl ?_
    refine e_bipush (v := nI 32) dX3_requireValue_5 rfl bc_32 ?_
    refine e_ic_lt_f dX3_requireValue_7 rfl ⟨20, by decide⟩ (by
        intro q
        obtain ⟨j, hj, rfl⟩ := nI_of hc1
        exact hx (vp_in_nI ((nI_ltI hj (by omega)).mp q) (by omega))) ?_
    exact e_throw dX3_requireValue_10 dX3_requireValue_13 dX3_requireValue_14 dX3_requireValue_16 dX3_requireValue_19 th_82_251_86 rfl ⟨Nat.le_of_ble_eq_true rfl, Nat.le_of_ble_eq_true rfl⟩ (Nat.le_of_ble_eq_true rfl) ⟨Nat.le_of_ble_eq_true rfl, Nat.le_of_ble_eq_true rfl⟩ ⟨Nat.le_of_ble_eq_true rfl, Nat.le_of_ble_eq_true rfl⟩ rfl
theorem s_requireOwner_ok {l : Launch} (hf : l.stackTraces = false) {M : pmM} {v : Nat} (hv : v < 6) : Sp l kX3_requireOwner 64 1 1 6 [.int (nI v)] M (.inl none) M := by
  refine sp_of hf (by decide +kernel) (Nat.le_of_ble_eq_true rfl) (by intro v hv; simp at hv; subst hv; rfl) rfl ?_
  refine e_iload_0 dX3_requireOwner_0 rfl ?_
  refine e_if_lt_f dX3_requireOwner_1 rfl ⟨10, by decide⟩ (nI_pos (by omega)) ?_
  refine e_iload_0 dX3_requireOwner_4 rfl ?_
  refine e_bipush (v := nI 6) dX3_requireOwner_5 rfl bc_6 ?_
  refine e_nc_lt_t (tgt := 20) dX3_requireOwner_7 (by decide) (by omega) (by omega) hv ?_
  exact e_vret dX3_requireOwner_20 rfl (Nat.le_of_ble_eq_true rfl) (Nat.le_of_ble_eq_true rfl) rfl
theorem s_requireOwner_no {l : Launch} (hf : l.stackTraces = false) {M : pmM} {x : Int32} (hx : ¬ vp_in x 6) : Sp l kX3_requireOwner 64 1 1 6 [.int x] M (.inr "java/lang/IllegalArgumentException") M := by
  refine sp_of hf (by decide +kernel) (Nat.le_of_ble_eq_true rfl) (by intro v hv; simp at hv; subst hv; rfl) rfl ?_
  refine e_iload_0 dX3_requireOwner_0 rfl ?_
  refine e_if_lt (tgt := 10) dX3_requireOwner_1 (by decide) rfl (fun hc1 => ?_) (fun hc1 => ?_)
  · exact e_throw dX3_requireOwner_10 dX3_requireOwner_13 dX3_requireOwner_14 dX3_requireOwner_16 dX3_requireOwner_19 th_82_255_86 rfl ⟨Nat.le_of_ble_eq_true rfl, Nat.le_of_ble_eq_true rfl⟩ (Nat.le_of_ble_eq_true rfl) ⟨Nat.le_of_ble_eq_true rfl, Nat.le_of_ble_eq_true rfl⟩ ⟨Nat.le_of_ble_eq_true rfl, Nat.le_of_ble_eq_true rfl⟩ rfl
  · refine e_iload_0 dX3_requireOwner_4 rfl ?_
    refine e_bipush (v := nI 6) dX3_requireOwner_5 rfl bc_6 ?_
    refine e_ic_lt_f dX3_requireOwner_7 rfl ⟨20, by decide⟩ (by
        intro q
        obtain ⟨j, hj, rfl⟩ := nI_of hc1
        exact hx (vp_in_nI ((nI_ltI hj (by omega)).mp q) (by omega))) ?_
    exact e_throw dX3_requireOwner_10 dX3_requireOwner_13 dX3_requireOwner_14 dX3_requireOwner_16 dX3_requireOwner_19 th_82_255_86 rfl ⟨Nat.le_of_ble_eq_true rfl, Nat.le_of_ble_eq_true rfl⟩ (Nat.le_of_ble_eq_true rfl) ⟨Nat.le_of_ble_eq_true rfl, Nat.le_of_ble_eq_true rfl⟩ ⟨Nat.le_of_ble_eq_true rfl, Nat.le_of_ble_eq_true rfl⟩ rfl
theorem s_requireDays_ok {l : Launch} (hf : l.stackTraces = false) {M : pmM} {v : Nat} (h1 : 1 ≤ v) (h2 : v ≤ 99) : Sp l kX3_requireDays 64 1 1 6 [.int (nI v)] M (.inl none) M := by
  refine sp_of hf (by decide +kernel) (Nat.le_of_ble_eq_true rfl) (by intro v hv; simp at hv; subst hv; rfl) rfl ?_
  refine e_iload_0 dX3_requireDays_0 rfl ?_
  refine e_iconst (v := nI 1) dX3_requireDays_1 rfl ic_1 ?_
  refine e_nc_lt_f dX3_requireDays_2 rfl ⟨11, by decide⟩ (by omega) (by omega) h1 ?_
  refine e_iload_0 dX3_requireDays_5 rfl ?_
  refine e_bipush (v := nI 99) dX3_requireDays_6 rfl bc_99 ?_
  refine e_nc_le_t (tgt := 22) dX3_requireDays_8 (by decide) (by omega) (by omega) h2 ?_
  exact e_vret dX3_requireDays_22 rfl (Nat.le_of_ble_eq_true rfl) (Nat.le_of_ble_eq_true rfl) rfl
theorem s_requireDays_no {l : Launch} (hf : l.stackTraces = false) {M : pmM} {x : Int32} (hx : ∀ v : Nat, 1 ≤ v → v ≤ 99 → x ≠ nI v) : Sp l kX3_requireDays 64 1 1 6 [.int x] M (.inr "java/lang/IllegalArgumentException") M := by
  refine sp_of hf (by decide +kernel) (Nat.le_of_ble_eq_true rfl) (by intro v hv; simp at hv; subst hv; rfl) rfl ?_
  refine e_iload_0 dX3_requireDays_0 rfl ?_
  refine e_iconst (v := nI 1) dX3_requireDays_1 rfl ic_1 ?_
  refine e_ic_lt (tgt := 11) dX3_requireDays_2 (by decide) rfl (fun hc2 => ?_) (fun hc2 => ?_)
  · exact e_throwW dX3_requireDays_11 dX3_requireDays_14 dX3_requireDays_15 dX3_requireDays_18 dX3_requireDays_21 th_82_257_86 rfl ⟨Nat.le_of_ble_eq_true rfl, Nat.le_of_ble_eq_true rfl⟩ (Nat.le_of_ble_eq_true rfl) ⟨Nat.le_of_ble_eq_true rfl, Nat.le_of_ble_eq_true rfl⟩ ⟨Nat.le_of_ble_eq_true rfl, Nat.le_of_ble_eq_true rfl⟩ rfl
  · refine e_iload_0 dX3_requireDays_5 rfl ?_
    refine e_bipush (v := nI 99) dX3_requireDays_6 rfl bc_99 ?_
    refine e_ic_le_f dX3_requireDays_8 rfl ⟨22, by decide⟩ (by
        intro q
        have h0 : ¬ x < 0 := fun z => hc2 (Int32.lt_trans z (by decide))
        obtain ⟨j, hj, rfl⟩ := nI_of h0
        have h3 := (nI_leI hj (by omega)).mp q
        have h4 : ¬ j < 1 := fun z => hc2 ((nI_ltI hj (by omega)).mpr z)
        exact hx j (by omega) h3 rfl) ?_
    exact e_throwW dX3_requireDays_11 dX3_requireDays_14 dX3_requireDays_15 dX3_requireDays_18 dX3_requireDays_21 th_82_257_86 rfl ⟨Nat.le_of_ble_eq_true rfl, Nat.le_of_ble_eq_true rfl⟩ (Nat.le_of_ble_eq_true rfl) ⟨Nat.le_of_ble_eq_true rfl, Nat.le_of_ble_eq_true rfl⟩ ⟨Nat.le_of_ble_eq_true rfl, Nat.le_of_ble_eq_true rfl⟩ rfl
theorem s_requireRange_ok {l : Launch} (hf : l.stackTraces = false) {M : pmM} {a b : Nat} (ha : a < 32) (hb : b < 32) (hab : a ≤ b) : Sp l kX3_requireRange 64 2 3 18 [.int (nI a), .int (nI b)] M (.inl none) M := by
  refine sp_of hf (by decide +kernel) (Nat.le_of_ble_eq_true rfl) (by intro v hv; simp at hv; rcases hv with rfl | rfl <;> rfl) rfl ?_
  refine e_iload_0 dX3_requireRange_0 rfl ?_
  refine e_callS dX3_requireRange_1 rfl csX3_113 (s_requireValue_ok hf ha) rfl rfl ⟨Nat.le_of_ble_eq_true rfl, Nat.le_of_ble_eq_true rfl⟩ ⟨Nat.le_of_ble_eq_true rfl, Nat.le_of_ble_eq_true rfl⟩ rfl rfl (Nat.le_of_ble_eq_true rfl) ?_
  refine e_iload_1 dX3_requireRange_4 rfl ?_
  refine e_callS dX3_requireRange_5 rfl csX3_113 (s_requireValue_ok hf hb) rfl rfl ⟨Nat.le_of_ble_eq_true rfl, Nat.le_of_ble_eq_true rfl⟩ ⟨Nat.le_of_ble_eq_true rfl, Nat.le_of_ble_eq_true rfl⟩ rfl rfl (Nat.le_of_ble_eq_true rfl) ?_
  refine e_iload_1 dX3_requireRange_8 rfl ?_
  refine e_iload_0 dX3_requireRange_9 rfl ?_
  refine e_nc_ge_t (tgt := 23) dX3_requireRange_10 (by decide) (by omega) (by omega) hab ?_
  exact e_vret dX3_requireRange_23 rfl (Nat.le_of_ble_eq_true rfl) (Nat.le_of_ble_eq_true rfl) rfl
theorem s_requireRange_no1 {l : Launch} (hf : l.stackTraces = false) {M : pmM} {x y : Int32} (hx : ¬ vp_in x 32) : Sp l kX3_requireRange 64 2 3 18 [.int x, .int y] M (.inr "java/lang/IllegalArgumentException") M := by
  refine sp_of hf (by decide +kernel) (Nat.le_of_ble_eq_true rfl) (by intro v hv; simp at hv; rcases hv with rfl | rfl <;> rfl) rfl ?_
  refine e_iload_0 dX3_requireRange_0 rfl ?_
  exact e_callS_x dX3_requireRange_1 csX3_113 (s_requireValue_no hf hx) rfl rfl ⟨Nat.le_of_ble_eq_true rfl, Nat.le_of_ble_eq_true rfl⟩ ⟨Nat.le_of_ble_eq_true rfl, Nat.le_of_ble_eq_true rfl⟩ (Nat.le_of_ble_eq_true rfl) rfl ⟨Nat.le_of_ble_eq_true rfl, Nat.le_of_ble_eq_true rfl⟩
theorem s_requireRange_no2 {l : Launch} (hf : l.stackTraces = false) {M : pmM} {a : Nat} {y : Int32} (ha : a < 32) (hy : ¬ vp_in y 32) : Sp l kX3_requireRange 64 2 3 18 [.int (nI a), .int y] M (.inr "java/lang/IllegalArgumentException") M := by
  refine sp_of hf (by decide +kernel) (Nat.le_of_ble_eq_true rfl) (by intro v hv; simp at hv; rcases hv with rfl | rfl <;> rfl) rfl ?_
  refine e_iload_0 dX3_requireRange_0 rfl ?_
  refine e_callS dX3_requireRange_1 rfl csX3_113 (s_requireValue_ok hf ha) rfl rfl ⟨Nat.le_of_ble_eq_true rfl, Nat.le_of_ble_eq_true rfl⟩ ⟨Nat.le_of_ble_eq_true rfl, Nat.le_of_ble_eq_true rfl⟩ rfl rfl (Nat.le_of_ble_eq_true rfl) ?_
  refine e_iload_1 dX3_requireRange_4 rfl ?_
  exact e_callS_x dX3_requireRange_5 csX3_113 (s_requireValue_no hf hy) rfl rfl ⟨Nat.le_of_ble_eq_true rfl, Nat.le_of_ble_eq_true rfl⟩ ⟨Nat.le_of_ble_eq_true rfl, Nat.le_of_ble_eq_true rfl⟩ (Nat.le_of_ble_eq_true rfl) rfl ⟨Nat.le_of_ble_eq_true rfl, Nat.le_of_ble_eq_true rfl⟩
theorem s_requireRange_no3 {l : Launch} (hf : l.stackTraces = false) {M : pmM} {a b : Nat} (ha : a < 32) (hb : b < 32) (hab : b < a) : Sp l kX3_requireRange 64 2 3 18 [.int (nI a), .int (nI b)] M (.inr "java/lang/IllegalArgumentException") M := by
  refine sp_of hf (by decide +kernel) (Nat.le_of_ble_eq_true rfl) (by intro v hv; simp at hv; rcases hv with rfl | rfl <;> rfl) rfl ?_
  refine e_iload_0 dX3_requireRange_0 rfl ?_
  refine e_callS dX3_requireRange_1 rfl csX3_113 (s_requireValue_ok hf ha) rfl rfl ⟨Nat.le_of_ble_eq_true rfl, Nat.le_of_ble_eq_true rfl⟩ ⟨Nat.le_of_ble_eq_true rfl, Nat.le_of_ble_eq_true rfl⟩ rfl rfl (Nat.le_of_ble_eq_true rfl) ?_
  refine e_iload_1 dX3_requireRange_4 rfl ?_
  refine e_callS dX3_requireRange_5 rfl csX3_113 (s_requireValue_ok hf hb) rfl rfl ⟨Nat.le_of_ble_eq_true rfl, Nat.le_of_ble_eq_true rfl⟩ ⟨Nat.le_of_ble_eq_true rfl, Nat.le_of_ble_eq_true rfl⟩ rfl rfl (Nat.le_of_ble_eq_true rfl) ?_
  refine e_iload_1 dX3_requireRange_8 rfl ?_
  refine e_iload_0 dX3_requireRange_9 rfl ?_
  refine e_nc_ge_f dX3_requireRange_10 rfl ⟨23, by decide⟩ (by omega) (by omega) hab ?_
  exact e_throw dX3_requireRange_13 dX3_requireRange_16 dX3_requireRange_17 dX3_requireRange_19 dX3_requireRange_22 th_82_253_86 rfl ⟨Nat.le_of_ble_eq_true rfl, Nat.le_of_ble_eq_true rfl⟩ (Nat.le_of_ble_eq_true rfl) ⟨Nat.le_of_ble_eq_true rfl, Nat.le_of_ble_eq_true rfl⟩ ⟨Nat.le_of_ble_eq_true rfl, Nat.le_of_ble_eq_true rfl⟩ rfl
theorem s_requirePacket_ok {l : Launch} (hf : l.stackTraces = false) {M : pmM} {a b c : Nat} (ha : a < 32) (hb : b < 32) (hc : c < 32) : Sp l kX3_requirePacket 64 2 3 18 [.int (nI a), .int (nI b), .int (nI c)] M (.inl none) M := by
  refine sp_of hf (by decide +kernel) (Nat.le_of_ble_eq_true rfl) (by intro v hv; simp at hv; rcases hv with rfl | rfl | rfl <;> rfl) rfl ?_
  refine e_iload_0 dX3_requirePacket_0 rfl ?_
  refine e_callS dX3_requirePacket_1 rfl csX3_113 (s_requireValue_ok hf ha) rfl rfl ⟨Nat.le_of_ble_eq_true rfl, Nat.le_of_ble_eq_true rfl⟩ ⟨Nat.le_of_ble_eq_true rfl, Nat.le_of_ble_eq_true rfl⟩ rfl rfl (Nat.le_of_ble_eq_true rfl) ?_
  refine e_iload_1 dX3_requirePacket_4 rfl ?_
  refine e_callS dX3_requirePacket_5 rfl csX3_113 (s_requireValue_ok hf hb) rfl rfl ⟨Nat.le_of_ble_eq_true rfl, Nat.le_of_ble_eq_true rfl⟩ ⟨Nat.le_of_ble_eq_true rfl, Nat.le_of_ble_eq_true rfl⟩ rfl rfl (Nat.le_of_ble_eq_true rfl) ?_
  refine e_iload_2 dX3_requirePacket_8 rfl ?_
  refine e_callS dX3_requirePacket_9 rfl csX3_113 (s_requireValue_ok hf hc) rfl rfl ⟨Nat.le_of_ble_eq_true rfl, Nat.le_of_ble_eq_true rfl⟩ ⟨Nat.le_of_ble_eq_true rfl, Nat.le_of_ble_eq_true rfl⟩ rfl rfl (Nat.le_of_ble_eq_true rfl) ?_
  exact e_vret dX3_requirePacket_12 rfl (Nat.le_of_ble_eq_true rfl) (Nat.le_of_ble_eq_true rfl) rfl
theorem s_requirePacket_no {l : Launch} (hf : l.stackTraces = false) {M : pmM} {x y z : Int32} (hx : ¬ (vp_in x 32 ∧ vp_in y 32 ∧ vp_in z 32)) : Sp l kX3_requirePacket 64 2 3 18 [.int x, .int y, .int z] M (.inr "java/lang/IllegalArgumentException") M := by
  refine sp_of hf (by decide +kernel) (Nat.le_of_ble_eq_true rfl) (by intro v hv; simp at hv; rcases hv with rfl | rfl | rfl <;> rfl) rfl ?_
  by_cases h1 : vp_in x 32
  · obtain ⟨a, ha, rfl⟩ := vp_in_of h1 (by decide)
    by_cases h2 : vp_in y 32
    · obtain ⟨b, hb, rfl⟩ := vp_in_of h2 (by decide)
      have h3 : ¬ vp_in z 32 := fun h => hx ⟨h1, h2, h⟩
      refine e_iload_0 dX3_requirePacket_0 rfl ?_
      refine e_callS dX3_requirePacket_1 rfl csX3_113 (s_requireValue_ok hf ha) rfl rfl ⟨Nat.le_of_ble_eq_true rfl, Nat.le_of_ble_eq_true rfl⟩ ⟨Nat.le_of_ble_eq_true rfl, Nat.le_of_ble_eq_true rfl⟩ rfl rfl (Nat.le_of_ble_eq_true rfl) ?_
      refine e_iload_1 dX3_requirePacket_4 rfl ?_
      refine e_callS dX3_requirePacket_5 rfl csX3_113 (s_requireValue_ok hf hb) rfl rfl ⟨Nat.le_of_ble_eq_true rfl, Nat.le_of_ble_eq_true rfl⟩ ⟨Nat.le_of_ble_eq_true rfl, Nat.le_of_ble_eq_true rfl⟩ rfl rfl (Nat.le_of_ble_eq_true rfl) ?_
      refine e_iload_2 dX3_requirePacket_8 rfl ?_
      exact e_callS_x dX3_requirePacket_9 csX3_113 (s_requireValue_no hf h3) rfl rfl ⟨Nat.le_of_ble_eq_true rfl, Nat.le_of_ble_eq_true rfl⟩ ⟨Nat.le_of_ble_eq_true rfl, Nat.le_of_ble_eq_true rfl⟩ (Nat.le_of_ble_eq_true rfl) rfl ⟨Nat.le_of_ble_eq_true rfl, Nat.le_of_ble_eq_true rfl⟩
    · refine e_iload_0 dX3_requirePacket_0 rfl ?_
      refine e_callS dX3_requirePacket_1 rfl csX3_113 (s_requireValue_ok hf ha) rfl rfl ⟨Nat.le_of_ble_eq_true rfl, Nat.le_of_ble_eq_true rfl⟩ ⟨Nat.le_of_ble_eq_true rfl, Nat.le_of_ble_eq_true rfl⟩ rfl rfl (Nat.le_of_ble_eq_true rfl) ?_
      refine e_iload_1 dX3_requirePacket_4 rfl ?_
      exact e_callS_x dX3_requirePacket_5 csX3_113 (s_requireValue_no hf h2) rfl rfl ⟨Nat.le_of_ble_eq_true rfl, Nat.le_of_ble_eq_true rfl⟩ ⟨Nat.le_of_ble_eq_true rfl, Nat.le_of_ble_eq_true rfl⟩ (Nat.le_of_ble_eq_true rfl) rfl ⟨Nat.le_of_ble_eq_true rfl, Nat.le_of_ble_eq_true rfl⟩
  · refine e_iload_0 dX3_requirePacket_0 rfl ?_
    exact e_callS_x dX3_requirePacket_1 csX3_113 (s_requireValue_no hf h1) rfl rfl ⟨Nat.le_of_ble_eq_true rfl, Nat.le_of_ble_eq_true rfl⟩ ⟨Nat.le_of_ble_eq_true rfl, Nat.le_of_ble_eq_true rfl⟩ (Nat.le_of_ble_eq_true rfl) rfl ⟨Nat.le_of_ble_eq_true rfl, Nat.le_of_ble_eq_true rfl⟩
theorem s_requireOrNone_none {l : Launch} (hf : l.stackTraces = false) {M : pmM}  : Sp l kX3_requireObjectOrNone 64 2 1 6 [.ref 0, .int (-1)] M (.inl none) M := by
  refine sp_of hf (by decide +kernel) (Nat.le_of_ble_eq_true rfl) (by intro v hv; simp at hv; rcases hv with rfl | rfl <;> rfl) rfl ?_
  refine e_iload_1 dX3_requireObjectOrNone_0 rfl ?_
  refine e_iconst (v := -1) dX3_requireObjectOrNone_1 rfl ic_m1 ?_
  refine e_ic_eq_t (tgt := 10) dX3_requireObjectOrNone_2 (by decide) rfl ?_
  exact e_vret dX3_requireObjectOrNone_10 rfl (Nat.le_of_ble_eq_true rfl) (Nat.le_of_ble_eq_true rfl) rfl
theorem s_requireOrNone_ok {l : Launch} (hf : l.stackTraces = false) {M : pmM} {oc : Nat} (hoc : M.1 0 1 = nI oc) (h8 : oc ≤ 8) {o : Nat} (ho : o < oc) : Sp l kX3_requireObjectOrNone 64 2 1 6 [.ref 0, .int (nI o)] M (.inl none) M := by
  refine sp_of hf (by decide +kernel) (Nat.le_of_ble_eq_true rfl) (by intro v hv; simp at hv; rcases hv with rfl | rfl <;> rfl) rfl ?_
  refine e_iload_1 dX3_requireObjectOrNone_0 rfl ?_
  refine e_iconst (v := -1) dX3_requireObjectOrNone_1 rfl ic_m1 ?_
  refine e_ic_eq_f dX3_requireObjectOrNone_2 rfl ⟨10, by decide⟩ (fun q => nI_pos (show o < 2 ^ 31 by omega) (by rw [q]; decide)) ?_
  refine e_aload_0 dX3_requireObjectOrNone_5 rfl ?_
  refine e_iload_1 dX3_requireObjectOrNone_6 rfl ?_
  refine e_callV dX3_requireObjectOrNone_7 rfl csX3_50 (s_requireObject_ok hf hoc h8 ho) rfl rfl ps_0 (by decide) (by decide) ⟨Nat.le_of_ble_eq_true rfl, Nat.le_of_ble_eq_true rfl⟩ ⟨Nat.le_of_ble_eq_true rfl, Nat.le_of_ble_eq_true rfl⟩ rfl rfl (Nat.le_of_ble_eq_true rfl) ?_
  exact e_vret dX3_requireObjectOrNone_10 rfl (Nat.le_of_ble_eq_true rfl) (Nat.le_of_ble_eq_true rfl) rfl
theorem s_requireOrNone_no {l : Launch} (hf : l.stackTraces = false) {M : pmM} {oc : Nat} (hoc : M.1 0 1 = nI oc) (h8 : oc ≤ 8) {x : Int32} (hx : ¬ vp_in x oc) (h1 : x ≠ -1) : Sp l kX3_requireObjectOrNone 64 2 1 6 [.ref 0, .int x] M (.inr "java/lang/IndexOutOfBoundsException") M := by
  refine sp_of hf (by decide +kernel) (Nat.le_of_ble_eq_true rfl) (by intro v hv; simp at hv; rcases hv with rfl | rfl <;> rfl) rfl ?_
  refine e_iload_1 dX3_requireObjectOrNone_0 rfl ?_
  refine e_iconst (v := -1) dX3_requireObjectOrNone_1 rfl ic_m1 ?_
  refine e_ic_eq_f dX3_requireObjectOrNone_2 rfl ⟨10, by decide⟩ h1 ?_
  refine e_aload_0 dX3_requireObjectOrNone_5 rfl ?_
  refine e_iload_1 dX3_requireObjectOrNone_6 rfl ?_
  exact e_callV_x dX3_requireObjectOrNone_7 csX3_50 (s_requireObject_no hf hoc h8 hx) rfl rfl ps_0 (by decide) (by decide) ⟨Nat.le_of_ble_eq_true rfl, Nat.le_of_ble_eq_true rfl⟩ ⟨Nat.le_of_ble_eq_true rfl, Nat.le_of_ble_eq_true rfl⟩ (Nat.le_of_ble_eq_true rfl) rfl ⟨Nat.le_of_ble_eq_true rfl, Nat.le_of_ble_eq_true rfl⟩
