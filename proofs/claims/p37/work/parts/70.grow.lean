/-! ===== a world that grows: constructors ===== -/
def rt : List (Nat × Nat × Nat) → Nat → Nat → Option Nat
  | [], _, _ => none
  | t :: r, a, k => if a = t.1 ∧ k = t.2.1 then some t.2.2 else rt r a k
/-- nothing but references, from a table -/
abbrev MR (tl : List (Nat × Nat × Nat)) : pmM := (fun _ _ => 0, rt tl, fun _ _ => 0, fun _ _ => 0)
theorem rt_mem : ∀ (tl : List (Nat × Nat × Nat)) {a k m : Nat}, rt tl a k = some m → ∃ t ∈ tl, t.1 = a ∧ t.2.2 = m
  | [], _, _, _, h => by cases h
  | t :: r, a, k, m, h => by
    rw [rt] at h
    by_cases c : a = t.1 ∧ k = t.2.1
    · rw [if_pos c] at h
      exact ⟨t, List.mem_cons_self, c.1.symm, Option.some.inj h⟩
    · rw [if_neg c] at h
      obtain ⟨z, z1, z2⟩ := rt_mem r h
      exact ⟨z, List.mem_cons_of_mem _ z1, z2⟩
theorem rt_put (tl : List (Nat × Nat × Nat)) (a k b : Nat) : pm2 (rt tl) a k (some b) = rt ((a, k, b) :: tl) := rfl
def rfV (n n' : Nat) (v : Value) : Prop := match v with
  | .ref a => a < n ∨ n' ≤ a
  | _ => True
def rfP (n n' : Nat) : List Value → Prop
  | [] => True
  | v :: r => rfV n n' v ∧ rfP n n' r
def rfO (n n' : Nat) (o : Option Value) : Prop := match o with
  | some v => rfV n n' v
  | none => True
def loP (n n' : Nat) : List (Option Value) → Prop
  | [] => True
  | o :: r => rfO n n' o ∧ loP n n' r
theorem rfV_map {n n' : Nat} {L L' : Nat → Nat} (h : ∀ i, i < n ∨ n' ≤ i → L' i = L i) {v : Value} (hv : rfV n n' v) : pmV L' v = pmV L v := by
  cases v with
  | ref a => exact congrArg Value.ref (h a hv)
  | _ => rfl
theorem rfP_map {n n' : Nat} {L L' : Nat → Nat} (h : ∀ i, i < n ∨ n' ≤ i → L' i = L i) : ∀ st, rfP n n' st → st.map (pmV L') = st.map (pmV L)
  | [], _ => rfl
  | v :: r, hs => by rw [List.map_cons, List.map_cons, rfV_map h hs.1, rfP_map h r hs.2]
theorem loP_map {n n' : Nat} {L L' : Nat → Nat} (h : ∀ i, i < n ∨ n' ≤ i → L' i = L i) : ∀ (lo : List (Option Value)) (i : Nat), loP n n' lo → pmPr L' i lo = pmPr L i lo
  | [], _, _ => rfl
  | none :: r, i, hs => loP_map h r (i + 1) hs.2
  | some v :: r, i, hs => by
    show (i, pmV L' v) :: pmPr L' (i + 1) r = (i, pmV L v) :: pmPr L (i + 1) r
    rw [rfV_map h hs.1, loP_map h r (i + 1) hs.2]
theorem pmE_L {cy : Nat → ClassId} {L L' : Nat → Nat} {M : pmM} {i : Nat} (h : ∀ k m, M.2.1 i k = some m → L' m = L m) : pmE cy L' M i = pmE cy L M i := by
  have hm : ∀ k, (M.2.1 i k).map L' = (M.2.1 i k).map L := fun k => by
    cases e : M.2.1 i k with
    | none => rfl
    | some m => exact congrArg some (h k m e)
  have hF : pmF L' M i (psh i).1 = pmF L M i (psh i).1 := by
    funext k
    unfold pmF
    rw [hm]
  have hA : (fun j => (M.2.1 i j).map L') = fun j => (M.2.1 i j).map L := funext hm
  unfold pmE pmAr
  rw [hF, hA]
theorem pmWl_grow {cy : Nat → ClassId} {L L' : Nat → Nat} {M : pmM} {n : Nat} (hL : ∀ i, i < n → L' i = L i) (hm : ∀ i k m, i < n → M.2.1 i k = some m → L' m = L m) : pmWl cy L' M (n + 1) = pmWl cy L M n ++ [(L' n, pmE cy L' M n)] := by
  unfold pmWl
  rw [List.range_succ, List.map_append]
  congr 1
  refine List.map_congr_left (fun i hi => ?_)
  have hi := List.mem_range.mp hi
  rw [hL i hi, pmE_L (fun k m => hm i k m hi)]
def gMon (G : pmG) (n n' : Nat) : Prop := ∀ below args s D cy L L' A t, (∀ i, i < n ∨ n' ≤ i → L' i = L i) → G below args s D cy L' A t → G below args s D cy L A t
def gAO (G : pmG) : Prop := ∀ below args s D cy L A t, (aoK s → G below args s D cy L A t) → G below args s D cy L A t
def pmPN (vs : List Value) (n : Nat) (M : pmM) (D : va_G) (cy : Nat → ClassId) (L : Nat → Nat) (A : Nat → Prop) : Array Value → State → Prop := fun v U => pmPc vs n M D cy L A v U ∧ aoK U
def pmQN (n n' : Nat) (M' : pmM) (D : va_G) (cy : Nat → ClassId) (L : Nat → Nat) (A : Nat → Prop) : Array Value → State → Outcome → State → Prop := fun _ st oc t =>
  oc = .returned none ∧ ∃ L' : Nat → Nat, (∀ i, i < n ∨ n' ≤ i → L' i = L i) ∧ (∀ i j, i < n' → j < n' → L' i = L' j → i = j) ∧ (∀ i, i < n' → A (L' i)) ∧ va_P D pmCl (pmWl cy L' M' n') t.heap ∧ va_F A st t
def gN (n0 n' mc ms : Nat) (M' : pmM) : pmG := fun below args s D cy L A t => aoK s → vx_MQ below (pmQN n0 n' M' D cy L A) (fun _ _ _ => False) args s mc ms A t
/-- a constructor: the world grows from n things to n' -/
def SpN (l : Launch) (K : pmKey) (n n' d mc ms : Nat) (vs : List Value) (M M' : pmM) : Prop :=
  ∀ (D : va_G) (cy : Nat → ClassId) (L : Nat → Nat) (A : Nat → Prop), vx_Met l K.1 (wU K) (rmd d mc ms) (pmPN vs n M D cy L A) (pmQN n n' M' D cy L A) (fun _ _ _ => False) mc ms A
theorem gN_mon {n0 n' mc ms : Nat} {M' : pmM} {a b : Nat} (h1 : n0 ≤ a) (h2 : b ≤ n') : gMon (gN n0 n' mc ms M') a b := by
  intro below args s D cy L L' A t hL hG hao
  obtain ⟨o, g1, g2, g3⟩ := hG hao
  refine ⟨o, g1, g2, ?_⟩
  rcases g3 with ⟨⟨g4, L2, g5, g6⟩, g7⟩ | g3
  · exact Or.inl ⟨⟨g4, L2, fun i hi => (g5 i hi).trans (hL i (by omega)), g6⟩, g7⟩
  · exact Or.inr g3
theorem gN_ao {n0 n' mc ms : Nat} {M' : pmM} : gAO (gN n0 n' mc ms M') := fun _ _ _ _ _ _ _ _ h hao => h hao hao
section GROW
variable {l : Launch} {K K2 : pmKey} {G : pmG} {R : Room} {n u w pc pc' idx : Nat} {lo : List (Option Value)} {st : List Value} {tl : List (Nat × Nat × Nat)}
theorem pmX.grow {p : Program} {s : State} {m : MethodId} {args : Array Value} {meth : Method} {c : Code} {D : va_G} {cy : Nat → ClassId} {L L' : Nat → Nat} {A : Nat → Prop} {n' : Nat} (X : pmX l K n p s m args meth c D cy L A) (h1 : ∀ i j, i < n' → j < n' → L' i = L' j → i = j) (h2 : ∀ i, i < n' → A (L' i)) : pmX l K n' p s m args meth c D cy L' A := by
  obtain ⟨x1, x2, x3, x4, x5, x6, x7, x8, x9, x10, x11, x12, x13, -, -⟩ := X
  exact ⟨x1, x2, x3, x4, x5, x6, x7, x8, x9, x10, x11, x12, x13, h1, h2⟩
theorem va_D_inj {cy : Nat → ClassId} {L : Nat → Nat} {M : pmM} {A : Nat → Prop} {n : Nat} (h : va_D A (pmWl cy L M n)) : (∀ i j, i < n → j < n → L i = L j → i = j) ∧ ∀ i, i < n → A (L i) :=
  ⟨fun i j hi hj e => h.1 i j _ _ (pmWl_get hi) (pmWl_get hj) e, fun i hi => h.2 i _ (pmWl_get hi)⟩
/-- a thing more, at n -/
theorem pm_more {p : Program} {e : Env} {s : State} {m : MethodId} {args : Array Value} {below : List Frame} {meth : Method} {c : Code} {D : va_G} {cy : Nat → ClassId} {L : Nat → Nat} {A : Nat → Prop} {H1 : Heap} {locs : List Loc} {ls : Array Slot} {q u' w' : Nat} {E : va_E}
    (X : pmX l K n p s m args meth c D cy L A) (hl' : lv_has ls K.2.2.1 (pmPr L 0 lo)) (hl : ∀ t ∈ tl, t.2.2 < n) (hE : ∀ L', pmE cy L' (MR tl) n = E) (hP1 : va_P D pmCl (pmWl cy L (MR tl) n ++ [(q, E)]) H1) (hD1 : va_D A (pmWl cy L (MR tl) n ++ [(q, E)])) (hS1 : va_S A s.heap H1 locs)
    (hG : gMon G n (n + 1)) (hst : rfP n (n + 1) st) (hlo : loP n (n + 1) lo) (kk : Ev l K G R (n + 1) u' w' pc' lo (.ref n :: st) (MR tl)) : W p l e R s m args below meth c H1 locs u' w' (G below args s D cy L A) (F0 m pc' ls (.ref q :: st.map (pmV L))) := by
  obtain ⟨L', hL'⟩ : ∃ L' : Nat → Nat, L' = fun i => if i = n then q else L i := ⟨_, rfl⟩
  have hn : L' n = q := by rw [hL']; exact if_pos rfl
  have ho : ∀ i, i < n ∨ n + 1 ≤ i → L' i = L i := fun i hi => by rw [hL']; exact if_neg (by omega)
  have hW : pmWl cy L' (MR tl) (n + 1) = pmWl cy L (MR tl) n ++ [(q, E)] := by
    rw [pmWl_grow (L := L) (fun i hi => ho i (Or.inl hi)) (fun i k m _ hm => by
      obtain ⟨t, t1, -, t2⟩ := rt_mem tl hm
      exact ho m (Or.inl (t2 ▸ hl t t1))), hn, hE]
  rw [← hW] at hP1 hD1
  have hI := va_D_inj hD1
  have k := kk p e s m args below meth c D cy L' A H1 locs ls (X.grow hI.1 hI.2) (by rw [loP_map ho lo 0 hlo]; exact hl') hP1 hS1
  have hs : (Value.ref n :: st).map (pmV L') = .ref q :: st.map (pmV L) := by
    rw [List.map_cons, rfP_map ho st hst]
    exact congrArg (fun z => Value.ref z :: st.map (pmV L)) hn
  rw [hs] at k
  exact fun T hT XT => by
    obtain ⟨t, a, b⟩ := k T hT XT
    exact ⟨t, a, hG below args s D cy L L' A t ho b⟩
theorem e_newA {atype : ArrayType} {ty : FieldType} {N kd t0 : Nat} {a0 : vp_A} (hd : decode K.2.1 pc = .ok (.newarray atype, 2)) (hp : pc + 2 = pc') (hty : newarray.typeOf atype = ty) (hkt : ∀ cy, (pmTys cy)[t0]? = some (cy kd, ty)) (harr : Cond.arrayClass ty ∈ gw) (hE : ∀ cy L, pmE cy L (MR tl) n = .inl (cy kd, a0)) (ha : ∀ cA : ClassId, vp_cell cA a0 = arrV cA N (fun _ => defaultValue ty)) (hra : ∀ (s : State) (cA : ClassId), va_RA s cA ty → s.vm.findClass ("[" ++ ty.toString) = some cA)
    (hn : ¬ nI N < 0) (hN : (nI N).toNatClampNeg = N) (hb : N * componentBytes ty ≤ 536870912) (hG : gMon G n (n + 1)) (hl : ∀ t ∈ tl, t.2.2 < n) (hst : rfP n (n + 1) st) (hlo : loP n (n + 1) lo) (hc : u + 1 ≤ R.cells ∧ w + N ≤ R.slots)
    (kk : Ev l K G R (n + 1) (u + 1) (w + N) pc' lo (.ref n :: st) (MR tl)) : Ev l K G R n u w pc lo (.int (nI N) :: st) (MR tl) := by
  subst hp; subst hty
  refine fun p e s m args below meth c D cy L A H locs ls X hl' hP hS => ?_
  have hK := X.2.2.2.2.2.2.2.2.2.2.1.1
  have hD := pmWl_D (cy := cy) (M := MR tl) X.2.2.2.2.2.2.2.2.2.2.2.2.2.1 X.2.2.2.2.2.2.2.2.2.2.2.2.2.2
  refine va_newa X.1 X.2.1 (X.2.2.2.2.1 _ harr) rfl hK hP hD hS X.2.2.2.2.2.2.2.2.2.2.2.2.1 ha hn hN hb hc.1 hc.2 hd (fun q cA H1 hK1 hP1 hD1 hS1 => ?_)
  have r1 := hra s cA (hK1.2 8 (cA, newarray.typeOf atype) rfl).2
  have r2 := hra s (cy kd) (hK.2 t0 _ (hkt cy)).2
  have e1 : cA = cy kd := Option.some.inj (r1.symm.trans r2)
  subst e1
  exact pm_more X hl' hl (hE cy) hP1 hD1 hS1 hG hst hlo kk
theorem e_newQ {C : String} {N kd t0 : Nat} (hd : decode K.2.1 pc = .ok (.anewarray idx, 3)) (hp : pc + 3 = pc') (hcl : Cond.classLink K.1.cls idx C ∈ gw) (hkt : ∀ cy, (pmTys cy)[t0]? = some (cy kd, .object C)) (hao : ∀ s, aoK s → va_AO C s) (hE : ∀ cy L, pmE cy L (MR tl) n = .inl (cy kd, N, .inr (.inr (.inr (.inr (fun _ => none)))))) (hGA : gAO G)
    (hn : ¬ nI N < 0) (hN : (nI N).toNatClampNeg = N) (hb : N * 4 ≤ 536870912) (hG : gMon G n (n + 1)) (hl : ∀ t ∈ tl, t.2.2 < n) (hst : rfP n (n + 1) st) (hlo : loP n (n + 1) lo) (hc : u + 1 ≤ R.cells ∧ w + N ≤ R.slots)
    (kk : Ev l K G R (n + 1) (u + 1) (w + N) pc' lo (.ref n :: st) (MR tl)) : Ev l K G R n u w pc lo (.int (nI N) :: st) (MR tl) := by
  subst hp
  refine fun p e s m args below meth c D cy L A H locs ls X hl' hP hS => ?_
  by_cases hA : aoK s
  · have hK := X.2.2.2.2.2.2.2.2.2.2.1.1
    have hD := pmWl_D (cy := cy) (M := MR tl) X.2.2.2.2.2.2.2.2.2.2.2.2.2.1 X.2.2.2.2.2.2.2.2.2.2.2.2.2.2
    refine va_newq X.1 X.2.1 X.2.2.2.1 (X.2.2.2.2.1 _ hcl) (hao s hA) hK hP hD hS X.2.2.2.2.2.2.2.2.2.2.2.2.1 hn hN hb hc.1 hc.2 hd (fun q cA H1 hK1 hP1 hD1 hS1 => ?_)
    obtain ⟨-, -, -, -, -, r1⟩ := (hK1.2 8 (cA, .object C) rfl).2
    obtain ⟨-, -, -, -, -, r2⟩ := (hK.2 t0 _ (hkt cy)).2
    have e1 : cA = cy kd := Option.some.inj (r1.symm.trans r2)
    subst e1
    exact pm_more X hl' hl (hE cy) hP1 hD1 hS1 hG hst hlo kk
  · exact fun T hT XT => ⟨_, Steps.refl _, hGA below args s D cy L A _ (fun h => absurd h hA)⟩
theorem e_newO {C : String} {T : u_T} {N ci : Nat} (hd : decode K.2.1 pc = .ok (.new idx, 3)) (hp : pc + 3 = pc') (hci : pmCl[ci]? = some (C, T, N)) (hs : psh n = (ci, N)) (hc5 : ci < 5) (hcl : Cond.classLink K.1.cls idx C ∈ gw) (hinst : Cond.instantiable C N ∈ gw) (hini : Cond.initialized C ∈ gw) (hdv : ∀ j, j < N → defaultValue (pmFt ci j) = if pmTy ci j = true then .int 0 else .null)
    (hG : gMon G n (n + 1)) (hl : ∀ t ∈ tl, t.2.2 < n) (hl1 : ∀ t ∈ tl, t.1 < n) (hst : rfP n (n + 1) st) (hlo : loP n (n + 1) lo) (hc : u + 1 ≤ R.cells ∧ w + N ≤ R.slots)
    (kk : Ev l K G R (n + 1) (u + 1) (w + N) pc' lo (.ref n :: st) (MR tl)) : Ev l K G R n u w pc lo st (MR tl) := by
  subst hp
  refine fun p e s m args below meth c D cy L A H locs ls X hl' hP hS => ?_
  obtain ⟨hin, hty, hnm⟩ := pm_cls ci C T N hci
  have hK := X.2.2.2.2.2.2.2.2.2.2.1.1
  have hD := pmWl_D (cy := cy) (M := MR tl) X.2.2.2.2.2.2.2.2.2.2.2.2.2.1 X.2.2.2.2.2.2.2.2.2.2.2.2.2.2
  have hnn : ∀ k, rt tl n k = none := fun k => by
    cases h : rt tl n k with
    | none => rfl
    | some m =>
      obtain ⟨t, t1, t2, -⟩ := rt_mem tl h
      have := hl1 t t1
      omega
  have hE : ∀ L', pmE cy L' (MR tl) n = .inr (ci, (List.range N).map (fun k => if pmTy ci k = true then Value.int 0 else .null)) := fun L' => by
    rw [pmE_obj hs hc5]
    congr 2
    refine List.map_congr_left (fun k _ => ?_)
    show (if pmTy ci k = true then Value.int 0 else va_rf ((rt tl n k).map L')) = _
    rw [hnn]
    rfl
  refine va_new X.1 X.2.1 X.2.2.2.2.1 hin (pmFt ci) hty X.2.2.2.1 (X.2.2.2.2.1 _ hcl) (X.2.2.2.2.1 _ hinst) (X.2.2.2.2.1 _ hini) hK hP hD hS X.2.2.2.2.2.2.2.2.2.2.2.2.1 hci (fs := (List.range N).map (fun k => if pmTy ci k = true then Value.int 0 else .null)) (fun j hj => ?_) hc.1 hc.2 hd (fun q H1 hP1 hD1 hS1 => pm_more X hl' hl hE hP1 hD1 hS1 hG hst hlo kk)
  rw [hdv j hj]
  simp [vp_V, hj]
/-- a reference into a final field, in its constructor -/
def pmLf (own : String) (idx ci k : Nat) : Prop := ∃ (C : String) (T : u_T) (N : Nat), pmCl[ci]? = some (C, T, N) ∧ k < N ∧ (T k).2.2.2 = true ∧ (T k).1 = own ∧ Cond.fieldLink own idx (T k).1 (T k).2.1 (T k).2.2.1 ∈ gw
theorem e_putR {a b ci k N : Nat} (hd : decode K.2.1 pc = .ok (.putfield idx, 3)) (hp : pc + 3 = pc') (hk : pmLf K.1.cls idx ci k) (hnm : K.1.name = "<init>") (ht : pmTy ci k = false) (hn : ∀ q, narrow (pmFt ci k) (.ref q) = .ref q) (hf : ∀ q, fits (pmFt ci k) (.ref q) = true) (hs : psh a = (ci, N)) (hc : ci < 5) (ha : a < n) (kk : Ev l K G R n u w pc' lo st (MR ((a, k, b) :: tl))) : Ev l K G R n u w pc lo (.ref b :: .ref a :: st) (MR tl) := by
  subst hp
  refine fun p e s m args below meth c D cy L A H locs ls X hl hP hS => ?_
  obtain ⟨C, T, N', h1, h2, h4, h5, h3⟩ := hk
  obtain ⟨hin, hty, hnm2⟩ := pm_cls ci C T N' h1
  have hN : N = N' := by
    match ci, h1, hs with
    | 0, h1, hs => cases h1; exact pm_len hs
    | 1, h1, hs => cases h1; exact pm_len hs
    | 2, h1, hs => cases h1; exact pm_len hs
    | 3, h1, hs => cases h1; exact pm_len hs
    | 4, h1, hs => cases h1; exact pm_len hs
    | z + 5, h1, hs => simp at h1
  subst hN
  have he := pmWl_get (cy := cy) (L := L) (M := MR tl) ha
  rw [pmE_obj hs hc] at he
  have hD := pmWl_D (cy := cy) (M := MR tl) X.2.2.2.2.2.2.2.2.2.2.2.2.2.1 X.2.2.2.2.2.2.2.2.2.2.2.2.2.2
  have hset : ((List.range N).map (pmF L (MR tl) a ci)).set k (.ref (L b)) = (List.range N).map (pmF L (MR ((a, k, b) :: tl)) a ci) :=
    pm_fset h2 (by simp [pmF, ht, rt, va_rf]) (fun j hj => by simp [pmF, rt, hj])
  have hW : (pmWl cy L (MR tl) n).set a (L a, .inr (ci, ((List.range N).map (pmF L (MR tl) a ci)).set k (.ref (L b)))) = pmWl cy L (MR ((a, k, b) :: tl)) n :=
    pmWl_set (by rw [hset, pmE_obj hs hc]) (fun j _ hj => pmE_congr rfl (show rt ((a, k, b) :: tl) j = rt tl j from funext fun z => if_neg (fun q => hj q.1)) rfl rfl)
  exact va_putF X.1 X.2.1 X.2.2.2.2.1 hin (pmFt ci) hty hnm2 X.2.2.2.1 X.2.2.2.2.2.2.2.2.2.2.1.1 hP hD hS a he h1 k h2 (X.2.2.2.2.1 _ h3) (fun _ h => h) h4 (X.2.2.2.2.2.2.2.2.1.trans hnm) h5 (hty k h2) (hn _) (hf _) (by simp [h2]) hd (fun H1 locs1 hP1 _ hS1 => kk p e s m args below meth c D cy L A H1 locs1 ls X hl (hW ▸ hP1) hS1)
end GROW
