/-! ===== A MACHINE BY CELL NUMBERS: memory is four functions of a cell's number and a place; L gives each number its address ===== -/
abbrev pmM : Type := (Nat → Nat → Int32) × (Nat → Nat → Option Nat) × (Nat → Nat → Int64) × (Nat → Nat → UInt64)
abbrev pmKey : Type := MethodName × ByteArray × Nat × Option FieldType × List (Nat × Nat × Nat × Nat)
def pmV (L : Nat → Nat) (v : Value) : Value := match v with
  | .ref a => .ref (L a)
  | w => w
def pm2 {α : Type} (f : Nat → Nat → α) (i k : Nat) (v : α) : Nat → Nat → α := fun a b => if a = i ∧ b = k then v else f a b
/-- the kind and the length of each cell: kinds 0 Groups, 1 Rule, 2 ValueSet, 3 FilterRules, 4 FilterRulesModel, 5 int[], 6 boolean[], 7 Groups[], 8 Rule[], 9 ValueSet[], 10 int[][], 11 long[], 12 double[] -/
def psh (i : Nat) : Nat × Nat :=
  if i < 15 then (if i = 0 then (3, 9) else if i = 1 then (9, 8) else if i = 2 then (8, 8) else if i = 3 then (7, 3) else if i = 4 then (5, 32) else if i = 5 then (10, 9) else (5, 9))
  else if i < 31 then (if (i - 15) % 2 = 0 then (2, 3) else (5, 3))
  else if i < 55 then (if (i - 31) % 3 = 0 then (1, 10) else (5, 3))
  else if i < 64 then (if (i - 55) % 3 = 0 then (0, 3) else (5, 32))
  else (([(4, 9), (5, 8), (5, 24), (5, 24), (5, 8), (5, 16), (5, 8), (6, 8), (5, 8), (6, 8), (5, 24), (5, 8), (5, 8), (5, 8), (5, 8), (5, 8), (5, 8), (5, 8), (5, 194), (5, 8), (11, 1), (12, 1)] : List (Nat × Nat)).getD (i - 64) (5, 0))
/-- which fields hold an int -/
def pmTy (ci k : Nat) : Bool := match ci with
  | 0 => k == 2
  | 1 => decide (k < 8)
  | 2 => k == 1 || k == 2
  | 3 => k == 1 || k == 3 || k == 4 || k == 5
  | _ => k == 1 || k == 3 || k == 4 || k == 5
abbrev pmCl : List vw_C := [(RX0, TX0, 3), (RX1, TX1, 10), (RX2, TX2, 3), (RX3, TX3, 9), (RX3, TX3, 9)]
def pmFt (ci : Nat) : Nat → FieldType := match ci with
  | 0 => tyX0
  | 1 => tyX1
  | 2 => tyX2
  | 3 => tyX3
  | _ => tyX3
def pmF (L : Nat → Nat) (M : pmM) (i ci k : Nat) : Value := if pmTy ci k = true then .int (M.1 i k) else va_rf ((M.2.1 i k).map L)
def pmAr (L : Nat → Nat) (M : pmM) (i : Nat) : (Nat → Int32) ⊕ (Nat → Int64) ⊕ (Nat → UInt32) ⊕ (Nat → UInt64) ⊕ (Nat → Option Nat) :=
  if (psh i).1 < 7 then .inl (M.1 i) else if (psh i).1 < 11 then .inr (.inr (.inr (.inr (fun j => (M.2.1 i j).map L)))) else if (psh i).1 = 11 then .inr (.inl (M.2.2.1 i)) else .inr (.inr (.inr (.inl (M.2.2.2 i))))
def pmE (cy : Nat → ClassId) (L : Nat → Nat) (M : pmM) (i : Nat) : va_E :=
  if (psh i).1 < 5 then .inr ((psh i).1, (List.range (psh i).2).map (pmF L M i (psh i).1)) else .inl (cy (psh i).1, (psh i).2, pmAr L M i)
def pmWl (cy : Nat → ClassId) (L : Nat → Nat) (M : pmM) (n : Nat) : va_W := (List.range n).map (fun i => (L i, pmE cy L M i))
def pmTys (cy : Nat → ClassId) : List (ClassId × FieldType) := [(cy 5, .int), (cy 6, .int), (cy 7, .object RX0), (cy 8, .object RX1), (cy 9, .object RX2), (cy 10, .array .int), (cy 11, .int), (cy 12, .int)]
/-- the words that go along by themselves, and those that are carried -/
def gw : List Cond := lw_tbl.filter goodWord
def pmN (w : Cond) : Bool := match w with
  | .fieldLinkNest .. => true
  | .methodLinkNest .. => true
  | .castable .. => true
  | .declares .. => true
  | _ => false
def nw : List Cond := lw_tbl.filter pmN
def pmS (w : Cond) : Bool := match w with
  | .stringRef .. => true
  | _ => false
def sw : List Cond := lw_tbl.filter pmS
theorem gw_of {w : Cond} (i : Nat) (h : lw_tbl[i]? = some w) (hg : goodWord w = true) : w ∈ gw := List.mem_filter.mpr ⟨List.mem_of_getElem? h, hg⟩
theorem nw_of {w : Cond} (i : Nat) (h : lw_tbl[i]? = some w) (hg : pmN w = true) : w ∈ nw := List.mem_filter.mpr ⟨List.mem_of_getElem? h, hg⟩
theorem gw_good {w : Cond} (h : w ∈ gw) : (w.onTables && w.keeps) = true ∨ ∃ ty, w = .arrayClass ty := good_of_word (List.mem_filter.mp h).2
theorem nw_warm {w : Cond} {s U : State} (hn : pmN w = true) (hW : s.WarmedH U.vm) (h : va_Nw w s) : va_Nw w U := by
  cases w <;> first | exact Bool.noConfusion (show false = true from hn) | exact va_Nw.warmF hW h | exact va_Nw.warmM hW h | exact va_Nw.warmC hW h | exact va_Nw.warmD hW h
def ncw : List (String × String) := [("java/lang/IllegalArgumentException", "java/lang/IndexOutOfBoundsException"), ("java/lang/IllegalStateException", "java/lang/IndexOutOfBoundsException"), ("java/lang/IllegalStateException", "java/lang/IllegalArgumentException"), ("java/lang/UnsupportedOperationException", "java/lang/IndexOutOfBoundsException"), ("java/lang/UnsupportedOperationException", "java/lang/IllegalArgumentException"), ("java/lang/UnsupportedOperationException", "java/lang/IllegalStateException"), ("java/util/NoSuchElementException", "java/lang/IndexOutOfBoundsException"), ("java/util/NoSuchElementException", "java/lang/IllegalArgumentException"), ("java/util/NoSuchElementException", "java/lang/IllegalStateException"), ("java/util/NoSuchElementException", "java/lang/UnsupportedOperationException")]
def pmK (D : va_G) (cy : Nat → ClassId) (U : State) : Prop := va_K D pmCl (pmTys cy) U ∧ (∀ w ∈ nw, va_Nw w U) ∧ (∀ (own : String) (k : Nat) (tx : String), Cond.stringRef own k tx ∈ sw → ∃ a, vk_R own k tx a U) ∧ ∀ q ∈ ncw, va_Nc q.1 q.2 U
theorem pmK.warm {D : va_G} {cy : Nat → ClassId} {s U : State} (hW : s.WarmedH U.vm) (h : pmK D cy s) : pmK D cy U :=
  ⟨va_K.moved hW.alike h.1, fun w hw => nw_warm (List.mem_filter.mp hw).2 hW (h.2.1 w hw), fun own k tx hm => by obtain ⟨a, ha⟩ := h.2.2.1 own k tx hm; exact ⟨a, vk_R.warm hW ha⟩, fun q hq => va_Nc.moved hW.alike (h.2.2.2 q hq)⟩
def pmZ (A : Nat → Prop) (U : State) (H : Heap) : Prop := vx_Zq Bundle.tN "UNASSIGNED_STACK" Bundle.steD A U H ∧ vx_Zq Bundle.tN "SUPPRESSED_SENTINEL" Bundle.listD A U H
def pmX (l : Launch) (K : pmKey) (n : Nat) (p : Program) (s : State) (m : MethodId) (args : Array Value) (meth : Method) (c : Code) (D : va_G) (cy : Nat → ClassId) (L : Nat → Nat) (A : Nat → Prop) : Prop :=
  p.tables.exec = Jvm.exec ∧ c.code = K.2.1 ∧ c.maxLocals = K.2.2.1 ∧ s.vm.findClass K.1.cls = some m.cls ∧ (∀ w ∈ gw, w.before args s = true) ∧ meth.locks = false ∧ meth.sig.returnType = K.2.2.2.1 ∧
  c.exceptionTable.toList = tableOf K.2.2.2.2 ∧ meth.name = K.1.name ∧ l.stackTraces = false ∧ pmK D cy s ∧ pmZ A s s.heap ∧ (∀ q, s.heap.size ≤ q → A q) ∧ (∀ i j, i < n → j < n → L i = L j → i = j) ∧ ∀ i, i < n → A (L i)
def pmPr (L : Nat → Nat) : Nat → List (Option Value) → List (Nat × Value)
  | _, [] => []
  | i, none :: r => pmPr L (i + 1) r
  | i, some v :: r => (i, pmV L v) :: pmPr L (i + 1) r
abbrev pmG : Type := List Frame → Array Value → State → va_G → (Nat → ClassId) → (Nat → Nat) → (Nat → Prop) → State → Prop
/-- from here the method comes to its end -/
def Ev (l : Launch) (K : pmKey) (G : pmG) (R : Room) (n u w pc : Nat) (lo : List (Option Value)) (st : List Value) (M : pmM) : Prop :=
  ∀ (p : Program) (e : Env) (s : State) (m : MethodId) (args : Array Value) (below : List Frame) (meth : Method) (c : Code) (D : va_G) (cy : Nat → ClassId) (L : Nat → Nat) (A : Nat → Prop) (H : Heap) (locs : List Loc) (ls : Array Slot),
    pmX l K n p s m args meth c D cy L A → lv_has ls K.2.2.1 (pmPr L 0 lo) → va_P D pmCl (pmWl cy L M n) H → va_S A s.heap H locs →
    W p l e R s m args below meth c H locs u w (G below args s D cy L A) (F0 m pc ls (st.map (pmV L)))
/-! what a method's end is -/
abbrev pmRes : Type := Option Value ⊕ String
def pmQ (n : Nat) (res : pmRes) (M : pmM) (D : va_G) (cy : Nat → ClassId) (L : Nat → Nat) (A : Nat → Prop) : Array Value → State → Outcome → State → Prop := fun _ st oc t =>
  (∃ v, res = .inl v ∧ oc = .returned (v.map (pmV L))) ∧ va_P D pmCl (pmWl cy L M n) t.heap ∧ va_F A st t
def pmXr (n : Nat) (res : pmRes) (M : pmM) (D : va_G) (cy : Nat → ClassId) (L : Nat → Nat) (A : Nat → Prop) : String → State → State → Prop := fun E st t =>
  res = .inr E ∧ va_P D pmCl (pmWl cy L M n) t.heap ∧ va_F A st t
def gM (n mc ms : Nat) (res : pmRes) (M : pmM) : pmG := fun below args s D cy L A => vx_MQ below (pmQ n res M D cy L A) (pmXr n res M D cy L A) args s mc ms A
abbrev rmd (d mc ms : Nat) : Room := { frames := 10 * d, cells := mc, slots := ms, locals := 128 * d }
def pmPc (vs : List Value) (n : Nat) (M : pmM) (D : va_G) (cy : Nat → ClassId) (L : Nat → Nat) (A : Nat → Prop) : Array Value → State → Prop := fun v U =>
  v = (vs.map (pmV L)).toArray ∧ pmK D cy U ∧ pmZ A U U.heap ∧ (∀ q, U.heap.size ≤ q → A q) ∧ (∀ i j, i < n → j < n → L i = L j → i = j) ∧ (∀ i, i < n → A (L i)) ∧ va_P D pmCl (pmWl cy L M n) U.heap
def wU (K : pmKey) : List Cond := Cond.code K.1 K.2.1 K.2.2.1 K.2.2.2.1 :: gw
def wH (K : pmKey) : List Cond := Cond.codeWith K.1 K.2.1 K.2.2.1 K.2.2.2.1 K.2.2.2.2 :: gw
/-- the method K, called with vs over the memory M, ends with res over M' -/
def Sp (l : Launch) (K : pmKey) (n d mc ms : Nat) (vs : List Value) (M : pmM) (res : pmRes) (M' : pmM) : Prop :=
  ∀ (D : va_G) (cy : Nat → ClassId) (L : Nat → Nat) (A : Nat → Prop), vx_Met l K.1 (wU K) (rmd d mc ms) (pmPc vs n M D cy L A) (pmQ n res M' D cy L A) (pmXr n res M' D cy L A) mc ms A
def SpH (l : Launch) (K : pmKey) (n d mc ms : Nat) (vs : List Value) (M : pmM) (res : pmRes) (M' : pmM) : Prop :=
  ∀ (D : va_G) (cy : Nat → ClassId) (L : Nat → Nat) (A : Nat → Prop), vx_Met l K.1 (wH K) (rmd d mc ms) (pmPc vs n M D cy L A) (pmQ n res M' D cy L A) (pmXr n res M' D cy L A) mc ms A
/-! the entry -/
def pmLo (nL : Nat) (vs : List Value) : List (Option Value) := vs.map some ++ List.replicate (nL - vs.length) none
theorem pmV_cat (L : Nat → Nat) (v : Value) : (pmV L v).category = v.category := by cases v <;> rfl
theorem pmPr_none (L : Nat → Nat) : ∀ (k i : Nat), pmPr L i (List.replicate k none) = []
  | 0, _ => rfl
  | k + 1, i => by rw [List.replicate_succ]; exact pmPr_none L k (i + 1)
theorem pmPr_app (L : Nat → Nat) : ∀ (vs : List Value) (r : List (Option Value)) (i : Nat), pmPr L i (vs.map some ++ r) = (vs.zipIdx i).map (fun q => (q.2, pmV L q.1)) ++ pmPr L (i + vs.length) r
  | [], r, i => by simp
  | v :: vs, r, i => by
    show (i, pmV L v) :: pmPr L (i + 1) (vs.map some ++ r) = _
    rw [pmPr_app L vs r (i + 1)]
    simp [List.zipIdx_cons, Nat.add_assoc, Nat.add_comm 1]
theorem pm_args (L : Nat → Nat) : ∀ (vs : List Value) (i : Nat), (∀ v ∈ vs, v.category = 1) → lv_args i (vs.map (pmV L)) = (vs.zipIdx i).map (fun q => (q.2, pmV L q.1))
  | [], i, _ => rfl
  | v :: vs, i, h => by
    have h1 : (pmV L v).category = 1 := by rw [pmV_cat]; exact h v List.mem_cons_self
    have ih := pm_args L vs (i + 1) (fun x hx => h x (List.mem_cons_of_mem _ hx))
    rw [List.map_cons, List.zipIdx_cons, List.map_cons, ← ih]
    show (i, pmV L v) :: lv_args (if (pmV L v).category = 2 then i + 2 else i + 1) (vs.map (pmV L)) = _
    rw [if_neg (by omega)]
theorem pm_sl : ∀ (vs : List Value), (∀ v ∈ vs, v.category = 1) → (lg_sl vs).length = vs.length
  | [], _ => rfl
  | v :: vs, h => by
    have h1 := h v List.mem_cons_self
    have ih := pm_sl vs (fun x hx => h x (List.mem_cons_of_mem _ hx))
    show (List.flatMap (fun v => if v.category = 2 then [Slot.val v, .second] else [.val v]) (v :: vs)).length = _
    rw [List.flatMap_cons, if_neg (by omega), List.length_append, List.length_cons, List.length_nil, List.length_cons]
    have ih' : (List.flatMap (fun v => if v.category = 2 then [Slot.val v, .second] else [.val v]) vs).length = vs.length := ih
    omega
theorem pm_entry (L : Nat → Nat) (vs : List Value) {nL : Nat} (hn : vs.length ≤ nL) (hc : ∀ v ∈ vs, v.category = 1) (m : MethodId) :
    ∃ ls : Array Slot, entryFrame m (vs.map (pmV L)).toArray nL = F0 m 0 ls [] ∧ lv_has ls nL (pmPr L 0 (pmLo nL vs)) := by
  have hc' : ∀ v ∈ vs.map (pmV L), v.category = 1 := fun v hv => by
    obtain ⟨x, hx, rfl⟩ := List.mem_map.mp hv
    rw [pmV_cat]; exact hc x hx
  have hl := lv_entry (vs.map (pmV L)) (n := nL) (by rw [pm_sl _ hc', List.length_map]; exact hn)
  refine ⟨_, lg_entry_eq _ _ _, ?_⟩
  rw [pm_args L vs 0 hc] at hl
  unfold pmLo
  rw [pmPr_app, pmPr_none, List.append_nil]
  exact hl
