/-! ===== locals, memory: how the picture is read and changed ===== -/
theorem pmPr_mem (L : Nat → Nat) : ∀ (lo : List (Option Value)) (i : Nat) (q : Nat × Value), q ∈ pmPr L i lo ↔ ∃ (k : Nat) (v : Value), lo[k]? = some (some v) ∧ q = (i + k, pmV L v)
  | [], i, q => by simp [pmPr]
  | none :: r, i, q => by
    show q ∈ pmPr L (i + 1) r ↔ _
    rw [pmPr_mem L r (i + 1) q]
    constructor
    · rintro ⟨k, v, h1, h2⟩
      exact ⟨k + 1, v, by simpa using h1, by rw [h2]; congr 1; omega⟩
    · rintro ⟨k, v, h1, h2⟩
      cases k with
      | zero => simp at h1
      | succ k => exact ⟨k, v, by simpa using h1, by rw [h2]; congr 1; omega⟩
  | some x :: r, i, q => by
    show q ∈ (i, pmV L x) :: pmPr L (i + 1) r ↔ _
    rw [List.mem_cons, pmPr_mem L r (i + 1) q]
    constructor
    · rintro (h | ⟨k, v, h1, h2⟩)
      · exact ⟨0, x, rfl, h⟩
      · exact ⟨k + 1, v, by simpa using h1, by rw [h2]; congr 1; omega⟩
    · rintro ⟨k, v, h1, h2⟩
      cases k with
      | zero =>
        left
        simp at h1
        rw [h2, h1]; rfl
      | succ k => exact Or.inr ⟨k, v, by simpa using h1, by rw [h2]; congr 1; omega⟩
theorem pm_get {L : Nat → Nat} {ls : Array Slot} {nL i : Nat} {lo : List (Option Value)} {v : Value} (h : lv_has ls nL (pmPr L 0 lo)) (hi : lo[i]? = some (some v)) : ls[i]? = some (.val (pmV L v)) :=
  h.2.2 (i, pmV L v) ((pmPr_mem L lo 0 _).mpr ⟨i, v, hi, by rw [Nat.zero_add]⟩)
def pmNW (o : Option Value) : Bool := match o with
  | some (.long _) => false
  | some (.double _) => false
  | _ => true
theorem pm_store {L : Nat → Nat} {ls : Array Slot} {nL i : Nat} {lo : List (Option Value)} {v : Value} (h : lv_has ls nL ((i, pmV L v) :: (pmPr L 0 lo).filter (fun q => !(q.1 == i) && !(q.1 + 1 == i && q.2.category == 2)))) (hw : ∀ k o, k + 1 = i → lo[k]? = some o → pmNW o = true) : lv_has ls nL (pmPr L 0 (lo.set i (some v))) := by
  refine ⟨h.1, h.2.1, fun q hq => h.2.2 q ?_⟩
  obtain ⟨k, x, h1, rfl⟩ := (pmPr_mem L _ 0 q).mp hq
  rw [Nat.zero_add]
  by_cases hk : k = i
  · subst hk
    have hl : k < lo.length := by
      have := (List.getElem?_eq_some_iff.mp h1).1
      rwa [List.length_set] at this
    rw [List.getElem?_set_self hl] at h1
    cases h1
    exact List.mem_cons_self
  · rw [List.getElem?_set_ne (Ne.symm hk)] at h1
    refine List.mem_cons_of_mem _ (List.mem_filter.mpr ⟨(pmPr_mem L lo 0 _).mpr ⟨k, x, h1, by rw [Nat.zero_add]⟩, ?_⟩)
    have hc : k + 1 = i → x.category = 1 := fun e => by
      have := hw k _ e h1
      cases x <;> first | rfl | cases this
    by_cases e : k + 1 = i
    · simp [hk, pmV_cat, hc e]
    · simp [hk, e]
theorem pm_store2 {L : Nat → Nat} {ls : Array Slot} {nL i : Nat} {lo : List (Option Value)} {v : Value} (h : lv_has ls nL ((i, pmV L v) :: (pmPr L 0 lo).filter (fun q => !(q.1 == i) && (!(q.1 == i + 1) && !(q.1 + 1 == i && q.2.category == 2))))) (hw : ∀ k o, k + 1 = i → lo[k]? = some o → pmNW o = true) : lv_has ls nL (pmPr L 0 ((lo.set i (some v)).set (i + 1) none)) := by
  refine ⟨h.1, h.2.1, fun q hq => h.2.2 q ?_⟩
  obtain ⟨k, x, h1, rfl⟩ := (pmPr_mem L _ 0 q).mp hq
  rw [Nat.zero_add]
  by_cases hk1 : k = i + 1
  · subst hk1
    have hl : i + 1 < (lo.set i (some v)).length := by
      have := (List.getElem?_eq_some_iff.mp h1).1
      rwa [List.length_set] at this
    rw [List.getElem?_set_self hl] at h1
    cases h1
  rw [List.getElem?_set_ne (Ne.symm hk1)] at h1
  by_cases hk : k = i
  · subst hk
    have hl : k < lo.length := by
      have := (List.getElem?_eq_some_iff.mp h1).1
      rwa [List.length_set] at this
    rw [List.getElem?_set_self hl] at h1
    cases h1
    exact List.mem_cons_self
  · rw [List.getElem?_set_ne (Ne.symm hk)] at h1
    refine List.mem_cons_of_mem _ (List.mem_filter.mpr ⟨(pmPr_mem L lo 0 _).mpr ⟨k, x, h1, by rw [Nat.zero_add]⟩, ?_⟩)
    have hc : k + 1 = i → x.category = 1 := fun e => by
      have := hw k _ e h1
      cases x <;> first | rfl | cases this
    by_cases e : k + 1 = i
    · simp [hk, hk1, pmV_cat, hc e]
    · simp [hk, hk1, e]
/-! the world's cells -/
theorem pmWl_get {cy : Nat → ClassId} {L : Nat → Nat} {M : pmM} {n i : Nat} (hi : i < n) : (pmWl cy L M n)[i]? = some (L i, pmE cy L M i) := by
  simp [pmWl, hi]
theorem pmWl_D {A : Nat → Prop} {cy : Nat → ClassId} {L : Nat → Nat} {M : pmM} {n : Nat} (hi : ∀ i j, i < n → j < n → L i = L j → i = j) (hA : ∀ i, i < n → A (L i)) : va_D A (pmWl cy L M n) := by
  have key : ∀ (k : Nat) (q : Nat × va_E), (pmWl cy L M n)[k]? = some q → k < n ∧ q.1 = L k := by
    intro k q hk
    have hl : k < n := by
      have := (List.getElem?_eq_some_iff.mp hk).1
      simpa [pmWl] using this
    rw [pmWl_get hl] at hk
    cases hk
    exact ⟨hl, rfl⟩
  refine ⟨fun i j p q h1 h2 e => ?_, fun k q hk => ?_⟩
  · obtain ⟨a1, b1⟩ := key i p h1
    obtain ⟨a2, b2⟩ := key j q h2
    exact hi i j a1 a2 (by rw [← b1, ← b2]; exact e)
  · obtain ⟨a1, b1⟩ := key k q hk
    rw [b1]
    exact hA k a1
theorem pmWl_set {cy : Nat → ClassId} {L : Nat → Nat} {M M' : pmM} {n i : Nat} {e : va_E} (he : e = pmE cy L M' i) (ho : ∀ j, j < n → j ≠ i → pmE cy L M' j = pmE cy L M j) : (pmWl cy L M n).set i (L i, e) = pmWl cy L M' n := by
  apply List.ext_getElem?
  intro k
  by_cases hk : k < n
  · by_cases e1 : k = i
    · subst e1
      rw [List.getElem?_set_self (by simp [pmWl, hk]), pmWl_get hk, he]
    · rw [List.getElem?_set_ne (Ne.symm e1), pmWl_get hk, pmWl_get hk, ho k hk e1]
  · rw [List.getElem?_eq_none (by simp [pmWl]; omega), List.getElem?_eq_none (by simp [pmWl]; omega)]
theorem pmE_obj {cy : Nat → ClassId} {L : Nat → Nat} {M : pmM} {i ci N : Nat} (h : psh i = (ci, N)) (hc : ci < 5) : pmE cy L M i = .inr (ci, (List.range N).map (pmF L M i ci)) := by
  unfold pmE
  rw [h, if_pos hc]
theorem pmE_int {cy : Nat → ClassId} {L : Nat → Nat} {M : pmM} {i k N : Nat} (h : psh i = (k, N)) (h5 : k = 5 ∨ k = 6) : pmE cy L M i = .inl (cy k, N, .inl (M.1 i)) := by
  unfold pmE pmAr
  rw [h, if_neg (by show ¬ k < 5; omega), if_pos (by show k < 7; omega)]
theorem pmE_ref {cy : Nat → ClassId} {L : Nat → Nat} {M : pmM} {i k N : Nat} (h : psh i = (k, N)) (h5 : 7 ≤ k) (h6 : k < 11) : pmE cy L M i = .inl (cy k, N, .inr (.inr (.inr (.inr (fun j => (M.2.1 i j).map L))))) := by
  unfold pmE pmAr
  rw [h, if_neg (by show ¬ k < 5; omega), if_neg (by show ¬ k < 7; omega), if_pos (by show k < 11; omega)]
theorem pmE_long {cy : Nat → ClassId} {L : Nat → Nat} {M : pmM} {i N : Nat} (h : psh i = (11, N)) : pmE cy L M i = .inl (cy 11, N, .inr (.inl (M.2.2.1 i))) := by
  unfold pmE pmAr
  rw [h, if_neg (show ¬ (11 : Nat) < 5 by decide), if_neg (show ¬ (11 : Nat) < 7 by decide), if_neg (show ¬ (11 : Nat) < 11 by decide), if_pos (show (11 : Nat) = 11 from rfl)]
theorem pmE_double {cy : Nat → ClassId} {L : Nat → Nat} {M : pmM} {i N : Nat} (h : psh i = (12, N)) : pmE cy L M i = .inl (cy 12, N, .inr (.inr (.inr (.inl (M.2.2.2 i))))) := by
  unfold pmE pmAr
  rw [h, if_neg (show ¬ (12 : Nat) < 5 by decide), if_neg (show ¬ (12 : Nat) < 7 by decide), if_neg (show ¬ (12 : Nat) < 11 by decide), if_neg (show ¬ (12 : Nat) = 11 by decide)]
/-- cells that hold the same are the same -/
theorem pmE_congr {cy : Nat → ClassId} {L : Nat → Nat} {M M' : pmM} {i : Nat} (h1 : M'.1 i = M.1 i) (h2 : M'.2.1 i = M.2.1 i) (h3 : M'.2.2.1 i = M.2.2.1 i) (h4 : M'.2.2.2 i = M.2.2.2 i) : pmE cy L M' i = pmE cy L M i := by
  have hF : pmF L M' i (psh i).1 = pmF L M i (psh i).1 := by
    funext k
    unfold pmF
    rw [h1, h2]
  unfold pmE pmAr
  rw [hF, h1, h2, h3, h4]
theorem pm2_ne {α : Type} {f : Nat → Nat → α} {i k j : Nat} {v : α} (h : j ≠ i) : pm2 f i k v j = f j := by
  funext b
  simp [pm2, h]
theorem pm2_self {f : Nat → Nat → Int32} {i k : Nat} {v : Int32} : pm2 f i k v i = upd (f i) k v := by
  funext b
  simp [pm2, upd]
theorem pm2_selfL {f : Nat → Nat → Int64} {i k : Nat} {v : Int64} : pm2 f i k v i = vp_updL (f i) k v := by
  funext b
  simp [pm2, vp_updL]
theorem pm2_selfD {f : Nat → Nat → UInt64} {i k : Nat} {v : UInt64} : pm2 f i k v i = vf_upd (f i) k v := by
  funext b
  simp [pm2, vf_upd]
theorem pm2_selfR {L : Nat → Nat} {f : Nat → Nat → Option Nat} {i k b : Nat} : (fun j => (pm2 f i k (some b) i j).map L) = va_up (fun j => (f i j).map L) k (some (L b)) := by
  funext j
  by_cases h : j = k
  · subst h; simp [pm2, va_up]
  · simp [pm2, va_up, h]
theorem pmV_rf (L : Nat → Nat) (o : Option Nat) : va_rf (o.map L) = pmV L (va_rf o) := by cases o <;> rfl
theorem pm_fset {L : Nat → Nat} {M M' : pmM} {i ci N k : Nat} {v : Value} (hk : k < N) (hv : pmF L M' i ci k = v) (ho : ∀ j, j ≠ k → pmF L M' i ci j = pmF L M i ci j) : ((List.range N).map (pmF L M i ci)).set k v = (List.range N).map (pmF L M' i ci) := by
  apply List.ext_getElem?
  intro j
  by_cases hj : j < N
  · by_cases e : j = k
    · subst e
      rw [List.getElem?_set_self (by simp [hj])]
      simp [hj, hv]
    · rw [List.getElem?_set_ne (Ne.symm e)]
      simp [hj, ho j e]
  · rw [List.getElem?_eq_none (by simp; omega), List.getElem?_eq_none (by simp; omega)]
theorem pm_cls (ci : Nat) (C : String) (T : u_T) (N : Nat) (h : pmCl[ci]? = some (C, T, N)) : (∀ w ∈ u_ws C T N, w ∈ gw) ∧ (∀ k, k < N → parseFieldDescriptor (T k).2.2.1 = some (pmFt ci k)) ∧ ∀ a, a < N → ∀ b, b < N → a ≠ b → (T a).2.1 ≠ (T b).2.1 := by
  match ci, h with
  | 0, h => cases h; exact ⟨by decide +kernel, tyX0_ok, nmX0⟩
  | 1, h => cases h; exact ⟨by decide +kernel, tyX1_ok, nmX1⟩
  | 2, h => cases h; exact ⟨by decide +kernel, tyX2_ok, nmX2⟩
  | 3, h => cases h; exact ⟨by decide +kernel, tyX3_ok, nmX3⟩
  | 4, h => cases h; exact ⟨by decide +kernel, tyX3_ok, nmX3⟩
  | k + 5, h => simp at h
/-- a field's link: place idx of own's file is field k of class ci -/
def pmLk (own : String) (idx ci k : Nat) (q : Bool) : Prop := ∃ (C : String) (T : u_T) (N : Nat), pmCl[ci]? = some (C, T, N) ∧ k < N ∧ ((T k).2.2.2 = false ∨ q = false) ∧ (Cond.fieldLink own idx (T k).1 (T k).2.1 (T k).2.2.1 ∈ gw ∨ ∃ host, Cond.fieldLinkNest own idx (T k).1 (T k).2.1 (T k).2.2.1 host ∈ nw)
