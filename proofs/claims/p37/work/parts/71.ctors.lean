/-! ===== constructors: their calls and ends; arrays of arrays; what no one looks at ===== -/
def pmCi (own : String) (idx : Nat) (K2 : pmKey) (k : Nat) : Prop := Cond.methodLink own idx K2.1 ∈ gw ∧ Cond.instanceMethod K2.1 ∈ gw ∧ Cond.initialized K2.1.cls ∈ gw ∧ Cond.code K2.1 K2.2.1 K2.2.2.1 K2.2.2.2.1 ∈ gw ∧ pmMh K2.1 k
def pmCin (own : String) (idx : Nat) (K2 : pmKey) (k : Nat) : Prop := (∃ host, Cond.methodLinkNest own idx K2.1 host ∈ nw) ∧ Cond.instanceMethod K2.1 ∈ gw ∧ Cond.initialized K2.1.cls ∈ gw ∧ Cond.code K2.1 K2.2.1 K2.2.2.1 K2.2.2.2.1 ∈ gw ∧ pmMh K2.1 k
/-- the words of Object's constructor -/
def pmOb (own : String) (idx : Nat) : Prop := Cond.methodLink own idx Lib.objectInit ∈ gw ∧ Cond.instanceMethod Lib.objectInit ∈ gw ∧ Cond.code Lib.objectInit ⟨#[0xb1]⟩ 1 none ∈ gw
theorem arrV_congr {c : ClassId} {N : Nat} {f g : Nat → Value} (h : ∀ j, j < N → f j = g j) : arrV c N f = arrV c N g := by
  unfold arrV
  congr 1
  congr 1
  funext j
  exact h j.val j.isLt
theorem gS_mon {b Ln : Nat} {xs : Nat → Int32} {n n' : Nat} (h : n' ≤ 1000) : gMon (gS b Ln xs) n n' := by
  intro below args s D cy L L' A t hL hG hC
  obtain ⟨c1, c2⟩ := hC
  exact hG ⟨(hL 1000 (Or.inr h)).trans c1, c2⟩
theorem gS_ao {b Ln : Nat} {xs : Nat → Int32} : gAO (gS b Ln xs) := fun _ _ _ _ _ _ _ _ h hC => h hC.2.2.2.2.2 hC
section CTOR
variable {l : Launch} {K K2 : pmKey} {G : pmG} {R : Room} {n n' u w pc pc' u' w' d2 mc2 ms2 idx : Nat} {lo : List (Option Value)} {st : List Value} {M M' : pmM} {tl tl' : List (Nat × Nat × Nat)}
theorem e_obj {a : Nat} (hd : decode K.2.1 pc = .ok (.invokespecial idx, 3)) (hp : pc + 3 = pc') (hk : pmOb K.1.cls idx) (hR : 1 ≤ R.frames ∧ 20 ≤ R.locals) (hr : (st.map fun v => v.category).sum ≤ 8) (kk : Ev l K G R n u w pc' lo st M) : Ev l K G R n u w pc lo (.ref a :: st) M := by
  subst hp
  refine fun p e s m args below meth c D cy L A H locs ls X hl hP hS => ?_
  have hts := X.2.2.2.2.1
  have h1 := pm_rest L hr
  have hRl := hR.2
  exact W.objInit X.1 X.2.1 X.2.2.2.1 (hts _ hk.1) (hts _ hk.2.1) (hts _ hk.2.2) rfl (hl.1.trans X.2.2.1.symm) rfl hd hR.1 (by
    show 0 + ((st.map (pmV L)).map fun v => v.category).sum + 12 ≤ R.locals
    omega) (kk p e s m args below meth c D cy L A H locs ls X hl hP hS)
theorem pm_blindN {vs : List Value} {n : Nat} {M : pmM} {D : va_G} {cy : Nat → ClassId} {L : Nat → Nat} {A : Nat → Prop} : FrameBlind (pmPN vs n M D cy L A) := fun a U g mk q => ⟨pm_blind a U g mk q.1, aoK.moved (u := U) (U := U.calling g mk a) (Vm.Alike.refl _) q.2⟩
theorem pm_runG {p : Program} {e : Env} {s : State} {m : MethodId} {args : Array Value} {below : List Frame} {meth : Method} {c : Code} {D : va_G} {cy : Nat → ClassId} {L : Nat → Nat} {A : Nat → Prop} {H : Heap} {locs : List Loc} {ls : Array Slot} {mc ms : Nat} {Q : State → Prop} {st0 rest : List Value} {a : Array Value} (hr : va_Run p l e R s m args below meth c H locs u w mc ms (F0 m pc ls st0) rest (pmQN n n' M' D cy L A a) A) (hS : va_S A s.heap H locs)
    (kv : ∀ (L' : Nat → Nat) (H1 : Heap) (locs1 : List Loc), (∀ i, i < n ∨ n' ≤ i → L' i = L i) → (∀ i j, i < n' → j < n' → L' i = L' j → i = j) → (∀ i, i < n' → A (L' i)) → va_P D pmCl (pmWl cy L' M' n') H1 → va_S A s.heap H1 locs1 → W p l e R s m args below meth c H1 locs1 (u + mc) (w + ms) Q (F0 m (pc + 3) ls rest)) :
    W p l e R s m args below meth c H locs u w Q (F0 m pc ls st0) := by
  intro T hT X
  obtain ⟨v, st₀, t, T', L9, h0, X', hL, e1, e2, ⟨hv2, L', g1, g2, g3, hP1, hF⟩, st⟩ := hr T hT X
  obtain ⟨k1, k2, k3⟩ := vx_keep h0 e1 hS (fun _ _ h => h) (fun _ h => h) hL hF
  have hv3 : v = none := Outcome.returned.inj hv2
  subst hv3
  obtain ⟨t2, a1, b1⟩ := kv L' T'.heap (locs ++ L9) g1 g2 g3 (by rw [e1]; exact hP1) k3 T' rfl X'
  exact ⟨t2, st t2 a1, b1⟩
theorem e_callC {a : Nat} (hd : decode K.2.1 pc = .ok (.invokespecial idx, 3)) (hp : pc + 3 = pc') (hk : pmCi K.1.cls idx K2 0 ∨ pmCin K.1.cls idx K2 0) (hr0 : K2.2.2.2.1 = none) (hnm : K2.1.name = "<init>") (hS2 : SpN l K2 n n' d2 mc2 ms2 [.ref a] M M')
    (hR : 10 * d2 + 1 ≤ R.frames ∧ 8 + (K2.2.2.1 + 11) + 128 * d2 ≤ R.locals) (hc : u + mc2 ≤ R.cells ∧ w + ms2 ≤ R.slots) (hr : (st.map fun v => v.category).sum ≤ 8) (hG : gMon G n n') (hGA : gAO G) (hst : rfP n n' st) (hlo : loP n n' lo)
    (hu : u + mc2 = u') (hw : w + ms2 = w') (kk : Ev l K G R n' u' w' pc' lo st M') : Ev l K G R n u w pc lo (.ref a :: st) M := by
  subst hp; subst hu; subst hw
  refine fun p e s m args below meth c D cy L A H locs ls X hl hP hS => ?_
  have hts := X.2.2.2.2.1
  by_cases hA : aoK s
  · have hpre : ∀ (U : State), U.heap = H → s.WarmedH U.vm → pmPN [.ref a] n M D cy L A (([.ref a] : List Value).map (pmV L)).toArray U := fun U h1 h2 => ⟨pm_pre X hP hS [.ref a] U h1 h2, aoK.moved h2.alike hA⟩
    have fin : ∀ (L' : Nat → Nat) (H1 : Heap) (locs1 : List Loc), (∀ i, i < n ∨ n' ≤ i → L' i = L i) → (∀ i j, i < n' → j < n' → L' i = L' j → i = j) → (∀ i, i < n' → A (L' i)) → va_P D pmCl (pmWl cy L' M' n') H1 → va_S A s.heap H1 locs1 → W p l e R s m args below meth c H1 locs1 (u + mc2) (w + ms2) (G below args s D cy L A) (F0 m (pc + 3) ls (st.map (pmV L))) := fun L' H1 locs1 g1 g2 g3 hP1 hS1 => by
      have k := kk p e s m args below meth c D cy L' A H1 locs1 ls (X.grow g2 g3) (by rw [loP_map g1 lo 0 hlo]; exact hl) hP1 hS1
      rw [rfP_map g1 st hst] at k
      exact fun T hT XT => by
        obtain ⟨t, y, z⟩ := k T hT XT
        exact ⟨t, y, hG below args s D cy L L' A t g1 z⟩
    have hm := pm_met (hS2 D cy L A) (fun E st t h => h)
    rcases hk with ⟨k1, k2, k3, k4, k5⟩ | ⟨⟨host, k1⟩, k2, k3, k4, k5⟩
    · refine pm_runG (va_runI (ws := wU K2) (rm := rmd d2 mc2 ms2) (As := []) (rest := st.map (pmV L)) ⟨X.1, X.2.1, X.2.2.1, X.2.2.2.1, hts⟩ hm ⟨callB_of 0 hts (wU_good k4) (by unfold wU; rw [hr0]) rfl rfl (hts _ k3) (hts _ k1) k5 hR, hnm, hts _ k2⟩ ⟨pm_blindN, hpre⟩ rfl rfl hl.1 rfl (lv_room (pm_rest L hr)) hd hc) hS fin
    · refine pm_runG (va_runIN (ws := wU K2) (rm := rmd d2 mc2 ms2) (As := []) (rest := st.map (pmV L)) ⟨X.1, X.2.1, X.2.2.1, X.2.2.2.1, hts⟩ hm ⟨va_cnB 0 hts (wU_good k4) (by unfold wU; rw [hr0]) rfl rfl (X.2.2.2.2.2.2.2.2.2.2.1.2.1 _ k1) (hts _ k3) k5 hR, hnm, hts _ k2⟩ ⟨pm_blindN, hpre⟩ rfl rfl hl.1 rfl (lv_room (pm_rest L hr)) hd hc) hS fin
  · exact fun T hT XT => ⟨_, Steps.refl _, hGA below args s D cy L A _ (fun h => absurd h hA)⟩
theorem e_vretN {n0 mc ms : Nat} (hd : decode K.2.1 pc = .ok (.return_, 1)) (hr : K.2.2.2.1 = none) (hu : u ≤ mc) (hw : w ≤ ms) (hM : M = M') : Ev l K (gN n0 n mc ms M') R n u w pc lo [] M := by
  subst hM
  refine fun p e s m args below meth c D cy L A H locs ls X hl hP hS => ?_
  have k : W p l e R s m args below meth c H locs u w (vx_MQ below (pmQN n0 n M D cy L A) (fun _ _ _ => False) args s mc ms A) (F0 m pc ls []) := W.widen hu hw (vx_ret (W.vret X.1 X.2.1 (X.2.2.2.2.2.2.1.trans hr) (fun t ht hW => ⟨rfl, L, fun _ _ => rfl, X.2.2.2.2.2.2.2.2.2.2.2.2.2.1, X.2.2.2.2.2.2.2.2.2.2.2.2.2.2, by rw [ht]; exact hP, hS.F ht⟩) hS.2.2 hd X.2.2.2.2.2.1))
  exact fun T hT XT => by
    obtain ⟨t, a, b⟩ := k T hT XT
    exact ⟨t, a, fun _ => b⟩
theorem spN_of {vs : List Value} {d mc ms : Nat} (hf : l.stackTraces = false) (hy : plainName K.1.cls = true) (hn : vs.length ≤ K.2.2.1) (hv : ∀ v ∈ vs, v.category = 1) (hh : K.2.2.2.2 = []) (body : Ev l K (gN n n' mc ms M') (rmd d mc ms) n 0 0 0 (pmLo K.2.2.1 vs) [] M) : SpN l K n n' d mc ms vs M M' := by
  intro D cy L A
  refine vx_ofW (cc := K.2.1) (maxL := K.2.2.1) (ret := K.2.2.2.1) hy rfl ?_
  intro p e s m args below meth c s₁ B hml ht hvv
  obtain ⟨⟨rfl, hK, hZ, hA, hi, hAi, hP⟩, hao⟩ := hvv
  have hts := atoms_spec (ws := wU K) B.pre
  obtain ⟨ls, h1, h2⟩ := pm_entry L vs hn hv m
  rw [h1]
  have k := body p e s m _ below meth c D cy L A s.heap [] ls ⟨B.exec, B.bytes, hml, findClass_of_methodNamed B.named, fun w hw => hts w (List.mem_cons_of_mem _ hw), B.notSynchronized, B.returns, by rw [hh]; exact List.eq_nil_iff_forall_not_mem.mpr ht, (name_of_methodNamed B.named B.method).1, hf, hK, hZ, hA, hi, hAi⟩ h2 hP va_S.rf
  exact fun T hT XT => by
    obtain ⟨t, a, b⟩ := k T hT XT
    exact ⟨t, a, b hao⟩
def T5 : List (Nat × Nat × Nat) := [(5, 0, 6), (5, 1, 7), (5, 2, 8), (5, 3, 9), (5, 4, 10), (5, 5, 11), (5, 6, 12), (5, 7, 13), (5, 8, 14)]
theorem rt_T5 {tl : List (Nat × Nat × Nat)} (h : ∀ t ∈ tl, t.1 < 5) (i j : Nat) : rt (T5 ++ tl) i j = if i = 5 then (if j < 9 then some (6 + j) else none) else rt tl i j := by
  have hn : ∀ j, rt tl 5 j = none := fun j => by
    cases e : rt tl 5 j with
    | none => rfl
    | some m =>
      obtain ⟨t, t1, t2, -⟩ := rt_mem tl e
      have := h t t1
      omega
  by_cases c : i = 5
  · subst c
    rw [if_pos rfl]
    by_cases c2 : j < 9
    · rw [if_pos c2]
      match j, c2 with
      | 0, _ => rfl
      | 1, _ => rfl
      | 2, _ => rfl
      | 3, _ => rfl
      | 4, _ => rfl
      | 5, _ => rfl
      | 6, _ => rfl
      | 7, _ => rfl
      | 8, _ => rfl
      | z + 9, h => omega
    · rw [if_neg c2]
      show (if 5 = 5 ∧ j = 0 then _ else if 5 = 5 ∧ j = 1 then _ else if 5 = 5 ∧ j = 2 then _ else if 5 = 5 ∧ j = 3 then _ else if 5 = 5 ∧ j = 4 then _ else if 5 = 5 ∧ j = 5 then _ else if 5 = 5 ∧ j = 6 then _ else if 5 = 5 ∧ j = 7 then _ else if 5 = 5 ∧ j = 8 then _ else rt tl 5 j) = none
      rw [if_neg (by omega), if_neg (by omega), if_neg (by omega), if_neg (by omega), if_neg (by omega), if_neg (by omega), if_neg (by omega), if_neg (by omega), if_neg (by omega)]
      exact hn j
  · rw [if_neg c]
    show (if i = 5 ∧ j = 0 then _ else if i = 5 ∧ j = 1 then _ else if i = 5 ∧ j = 2 then _ else if i = 5 ∧ j = 3 then _ else if i = 5 ∧ j = 4 then _ else if i = 5 ∧ j = 5 then _ else if i = 5 ∧ j = 6 then _ else if i = 5 ∧ j = 7 then _ else if i = 5 ∧ j = 8 then _ else rt tl i j) = rt tl i j
    rw [if_neg (by omega), if_neg (by omega), if_neg (by omega), if_neg (by omega), if_neg (by omega), if_neg (by omega), if_neg (by omega), if_neg (by omega), if_neg (by omega)]
theorem e_newM (hd : decode K.2.1 pc = .ok (.multianewarray idx 2, 4)) (hp : pc + 4 = pc') (hcl : Cond.classLink K.1.cls idx "[[I" ∈ gw) (harr : Cond.arrayClass .int ∈ gw) (hGA : gAO G) (hG : gMon G 5 15) (hl : ∀ t ∈ tl, t.2.2 < 5) (hl1 : ∀ t ∈ tl, t.1 < 5) (hst : rfP 5 15 st) (hlo : loP 5 15 lo) (hc : u + (1 + 9) ≤ R.cells ∧ w + (9 + 9 * 9) ≤ R.slots)
    (kk : Ev l K G R 15 (u + 1 + 9) (w + 9 + 9 * 9) pc' lo (.ref 5 :: st) (MR (T5 ++ tl))) : Ev l K G R 5 u w pc lo (.int (nI 9) :: .int (nI 9) :: st) (MR tl) := by
  subst hp
  refine fun p e s m args below meth c D cy L A H locs ls X hl' hP hS => ?_
  by_cases hA : aoK s
  · have hK := X.2.2.2.2.2.2.2.2.2.2.1.1
    have hD := pmWl_D (cy := cy) (M := MR tl) X.2.2.2.2.2.2.2.2.2.2.2.2.2.1 X.2.2.2.2.2.2.2.2.2.2.2.2.2.2
    have hcy : s.vm.findClass (FieldType.array .int).toString = some (cy 5) := (hK.2 0 (cy 5, .int) rfl).2
    refine va_mna (X := pmWl cy L (MR tl) 5) (L := []) (f := fun _ => .inr (0, [])) (ty := .int) (cy := cy 5) (z := (9, .inl fun _ => 0)) X.1 X.2.1 X.2.2.2.1 (X.2.2.2.2.1 _ hcl) hA.2.2.2 (X.2.2.2.2.1 _ harr) hcy hK (by rw [show va_pl [] (fun _ => .inr (0, [])) = ([] : va_W) from rfl, List.append_nil]; exact hP) (by rw [show va_pl [] (fun _ => .inr (0, [])) = ([] : va_W) from rfl, List.append_nil]; exact hD) hS X.2.2.2.2.2.2.2.2.2.2.2.2.1 (N' := 9) (K' := 9) (by decide) (by decide) (by decide) (by decide) (by decide) (by decide) (by decide) (by decide) (by decide) hc.1 hc.2 (fun cI => (show Jvm.Free.Multi.innerC cI 9 (defaultValue FieldType.int) = _ from arrV_new cI 9 (Value.int 0))) hd (fun q r cA H1 hr1 hr2 hK1 hP1 hD1 hS1 => ?_)
    have r1 := (hK1.2 8 (cA, .array .int) rfl).2
    have r2 := (hK.2 5 (cy 10, .array .int) rfl).2
    have e1 : cA = cy 10 := Option.some.inj (Eq.trans (Eq.symm (show s.vm.findClass ("[" ++ (FieldType.array .int).toString) = some cA from r1)) (show s.vm.findClass ("[" ++ (FieldType.array .int).toString) = some (cy 10) from r2))
    subst e1
    obtain ⟨L', hL'⟩ : ∃ L' : Nat → Nat, L' = fun i => if i = 5 then q else if 6 ≤ i ∧ i < 15 then r (i - 6) else L i := ⟨_, rfl⟩
    have h5 : L' 5 = q := by rw [hL']; exact if_pos rfl
    have h6 : ∀ k, k < 9 → L' (6 + k) = r k := fun k hk => by
      rw [hL']
      show (if 6 + k = 5 then q else if 6 ≤ 6 + k ∧ 6 + k < 15 then r (6 + k - 6) else L (6 + k)) = r k
      rw [if_neg (by omega), if_pos (by omega), show 6 + k - 6 = k by omega]
    have ho : ∀ i, i < 5 ∨ 15 ≤ i → L' i = L i := fun i hi => by
      rw [hL']
      show (if i = 5 then q else if 6 ≤ i ∧ i < 15 then r (i - 6) else L i) = L i
      rw [if_neg (by omega), if_neg (by omega)]
    have g5 : (L' 5, pmE cy L' (MR (T5 ++ tl)) 5) = (q, .inl (cy 10, 9, .inr (.inr (.inr (.inr (fun i => if i < 9 then some (r i) else none)))))) := by
      rw [h5, pmE_ref (k := 10) (N := 9) rfl (by decide) (by decide)]
      refine congrArg (fun f => (q, Sum.inl (cy 10, 9, Sum.inr (Sum.inr (Sum.inr (Sum.inr f)))))) (funext fun j => ?_)
      show (rt (T5 ++ tl) 5 j).map L' = _
      rw [rt_T5 hl1, if_pos rfl]
      by_cases c2 : j < 9
      · rw [if_pos c2, if_pos c2]
        exact congrArg some (h6 j c2)
      · rw [if_neg c2, if_neg c2]
        rfl
    have g6 : ∀ k, k < 9 → (L' (6 + k), pmE cy L' (MR (T5 ++ tl)) (6 + k)) = (r k, vr_up (fun _ => .inr (0, [])) ((List.range 9).map r) (.inl (cy 5, 9, .inl fun _ => 0)) (r k)) := fun k hk => by
      rw [h6 k hk, vr_up_in (List.mem_map.mpr ⟨k, List.mem_range.mpr hk, rfl⟩), pmE_int (k := 5) (N := 9) (by
        unfold psh
        rw [if_pos (by omega), if_neg (by omega), if_neg (by omega), if_neg (by omega), if_neg (by omega), if_neg (by omega), if_neg (by omega)]) (Or.inl rfl)]
    have hW : pmWl cy L' (MR (T5 ++ tl)) 15 = (pmWl cy L (MR tl) 5 ++ [(q, .inl (cy 10, 9, .inr (.inr (.inr (.inr (fun i => if i < 9 then some (r i) else none))))))]) ++ va_pl ([] ++ (List.range 9).map r) (vr_up (fun _ => .inr (0, [])) ((List.range 9).map r) (.inl (cy 5, 9, .inl fun _ => 0))) := by
      unfold pmWl
      rw [show List.range 15 = List.range 5 ++ [5, 6 + 0, 6 + 1, 6 + 2, 6 + 3, 6 + 4, 6 + 5, 6 + 6, 6 + 7, 6 + 8] from rfl, List.map_append, List.append_assoc]
      have ea : (List.range 5).map (fun i => (L' i, pmE cy L' (MR (T5 ++ tl)) i)) = (List.range 5).map (fun i => (L i, pmE cy L (MR tl) i)) := List.map_congr_left (fun i hi => by
        have hi := List.mem_range.mp hi
        have hrow : (MR (T5 ++ tl)).2.1 i = (MR tl).2.1 i := funext fun j => (rt_T5 hl1 i j).trans (if_neg (by omega))
        rw [ho i (Or.inl hi), pmE_congr (M' := MR (T5 ++ tl)) (M := MR tl) (i := i) rfl hrow rfl rfl, pmE_L (fun k m hm => by
          obtain ⟨t, t1, -, t2⟩ := rt_mem tl hm
          exact ho m (Or.inl (t2 ▸ hl t t1)))])
      rw [ea]
      refine congrArg (fun z => (List.range 5).map (fun i => (L i, pmE cy L (MR tl) i)) ++ z) ?_
      rw [List.map_cons, g5, List.map_cons, g6 0 (by decide), List.map_cons, g6 1 (by decide), List.map_cons, g6 2 (by decide), List.map_cons, g6 3 (by decide), List.map_cons, g6 4 (by decide), List.map_cons, g6 5 (by decide), List.map_cons, g6 6 (by decide), List.map_cons, g6 7 (by decide), List.map_cons, g6 8 (by decide), List.map_nil]
      rfl
    rw [← hW] at hP1 hD1
    have hI := va_D_inj hD1
    have k := kk p e s m args below meth c D cy L' A H1 locs ls (X.grow hI.1 hI.2) (by rw [loP_map ho lo 0 hlo]; exact hl') hP1 hS1
    have hs : (Value.ref 5 :: st).map (pmV L') = .ref q :: st.map (pmV L) := by
      rw [List.map_cons, rfP_map ho st hst]
      exact congrArg (fun z => Value.ref z :: st.map (pmV L)) h5
    rw [hs] at k
    exact fun T hT XT => by
      obtain ⟨t, a, b⟩ := k T hT XT
      exact ⟨t, a, hG below args s D cy L L' A t ho b⟩
  · exact fun T hT XT => ⟨_, Steps.refl _, hGA below args s D cy L A _ (fun h => absurd h hA)⟩
/-- two memories that the machine can't tell apart -/
def same1 (n : Nat) (M M' : pmM) : Prop := ∀ i, i < n → ∀ k, k < (psh i).2 → M'.1 i k = M.1 i k ∧ M'.2.2.1 i k = M.2.2.1 i k ∧ M'.2.2.2 i k = M.2.2.2 i k ∧ (((psh i).1 < 5 ∧ pmTy (psh i).1 k = true) ∨ (psh i).1 = 5 ∨ (psh i).1 = 6 ∨ 10 < (psh i).1 ∨ M'.2.1 i k = M.2.1 i k)
theorem e_junk (h : same1 n M M') (kk : Ev l K G R n u w pc lo st M') : Ev l K G R n u w pc lo st M := by
  refine fun p e s m args below meth c D cy L A H locs ls X hl hP hS => kk p e s m args below meth c D cy L A H locs ls X hl (fun k q hq => ?_) hS
  have hk : k < n := by
    have := (List.getElem?_eq_some_iff.mp hq).1
    simpa [pmWl] using this
  have h0 := hP k _ (pmWl_get hk)
  rw [pmWl_get hk] at hq
  cases hq
  have h1 := h k hk
  revert h0
  unfold pmE
  by_cases h5 : (psh k).1 < 5
  · rw [if_pos h5, if_pos h5]
    have e : (List.range (psh k).2).map (pmF L M' k (psh k).1) = (List.range (psh k).2).map (pmF L M k (psh k).1) := by
      refine List.map_congr_left (fun j hj => ?_)
      obtain ⟨g1, g2, g3, g4⟩ := h1 j (List.mem_range.mp hj)
      unfold pmF
      by_cases ht : pmTy (psh k).1 j = true
      · rw [if_pos ht, if_pos ht, g1]
      · rw [if_neg ht, if_neg ht]
        rcases g4 with g4 | g4 | g4 | g4 | g4
        · exact absurd g4.2 ht
        · omega
        · omega
        · omega
        · rw [g4]
    rw [e]
    exact fun z => z
  · rw [if_neg h5, if_neg h5]
    have key : vp_cell (cy (psh k).1) ((psh k).2, pmAr L M' k) = vp_cell (cy (psh k).1) ((psh k).2, pmAr L M k) := by
      unfold pmAr
      by_cases h7 : (psh k).1 < 7
      · rw [if_pos h7, if_pos h7]
        exact arrV_congr (f := fun j => .int (M'.1 k j)) (g := fun j => .int (M.1 k j)) (fun j hj => congrArg Value.int (h1 j hj).1)
      · rw [if_neg h7, if_neg h7]
        by_cases h11 : (psh k).1 < 11
        · rw [if_pos h11, if_pos h11]
          refine arrV_congr (f := fun j => va_rf ((M'.2.1 k j).map L)) (g := fun j => va_rf ((M.2.1 k j).map L)) (fun j hj => ?_)
          rcases (h1 j hj).2.2.2 with g4 | g4 | g4 | g4 | g4
          · omega
          · omega
          · omega
          · omega
          · rw [g4]
        · rw [if_neg h11, if_neg h11]
          by_cases h12 : (psh k).1 = 11
          · rw [if_pos h12, if_pos h12]
            exact arrV_congr (f := fun j => .long (M'.2.2.1 k j)) (g := fun j => .long (M.2.2.1 k j)) (fun j hj => congrArg Value.long (h1 j hj).2.1)
          · rw [if_neg h12, if_neg h12]
            exact arrV_congr (f := fun j => .double (M'.2.2.2 k j)) (g := fun j => .double (M.2.2.2 k j)) (fun j hj => congrArg Value.double (h1 j hj).2.2.1)
    intro z
    exact (show H[L k]? = some (vp_cell (cy (psh k).1) ((psh k).2, pmAr L M k)) from z).trans (congrArg some key.symm)
end CTOR
