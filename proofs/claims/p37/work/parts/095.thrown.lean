/-! ===== the throw of an exception whose constructor links its superclass's at another place (its rows begin as those of kit/laws/EXCEPTIONS.to-paste) ===== -/
def pmOwn (own : String) (ic : Nat) (X Y0 : String) (i7 : Nat) (b7 : ByteArray) (names : List String) : List Cond :=
  Bundle.throwableAtoms ++ Bundle.throwableSAtoms ++ Bundle.passSAtoms X Y0 i7 b7 ++ Bundle.chainSAtoms Y0 names ++
  [.methodLink own ic (Bundle.initS X), .instantiable X 6, .castable X X, .selects X Bundle.tFill0 Bundle.tFill0, .selects X Bundle.tFill Bundle.tFill,
   .lays X Bundle.tN "cause" "Ljava/lang/Throwable;", .lays X Bundle.tN "stackTrace" Bundle.steD, .lays X Bundle.tN "suppressedExceptions" Bundle.listD, .lays X Bundle.tN "detailMessage" "Ljava/lang/String;",
   .isRef (.static Bundle.tN "UNASSIGNED_STACK" Bundle.steD), .isRef (.static Bundle.tN "SUPPRESSED_SENTINEL" Bundle.listD),
   .fieldLink Bundle.tN 198 Bundle.tN "backtrace" "Ljava/lang/Object;", .lays Bundle.tN Bundle.tN "backtrace" "Ljava/lang/Object;", .lays X Bundle.tN "backtrace" "Ljava/lang/Object;"]
section PMN
variable {p : Program} {l : Launch} {e : Env} {R : Room} {s : State} {m₀ : MethodId} {args : Array Value} {below : List Frame} {meth : Method} {c : Code} {W : State} {locs : List Loc} {cells slots : Nat}
set_option maxHeartbeats 1000000 in
theorem pm_ctorMade (X : Stand p l e R s m₀ args below meth c W locs cells slots) (hexec : p.tables.exec = Jvm.exec) (htr : e.platform.stackTraces = false) {own cls Y0 : String} {names : List String} {ic i7 : Nat} {b7 : ByteArray}
    (hown : s.vm.findClass own = some m₀.cls) (hcls : Bundle.fit cls = true) (hY0 : Bundle.fit Y0 = true) (hnames : ∀ n ∈ names, Bundle.fit n = true) (z0 : decode b7 0 = .ok (.aload_n 0, 1)) (z1 : decode b7 1 = .ok (.aload_n 1, 1)) (z2 : decode b7 2 = .ok (.invokespecial i7, 3)) (z5 : decode b7 5 = .ok (.return_, 1))
    (h : ∀ a ∈ pmOwn own ic cls Y0 i7 b7 names, a.before args s = true)
    (hlocs : ∀ x ∈ locs, ∀ cell, s.heap[x.base]? = some cell → cell.vm.isStatics = false)
    {a : Addr} {cX : ClassId} {kX : Class} (hfoundX : s.vm.findClass cls = some cX) (hkX : s.vm.classes[cX]? = some kX) (hcell : W.heap[a]? = some (freshCell cX kX)) (hnew : s.heap.size ≤ a)
    {msg : Value} (hmsg : msg.isRef = true)
    {g : JFrame} (hg : g.method = m₀) (hsize : g.locals.size = c.maxLocals) {rest : List Value} (hstack : g.stack = msg :: .ref a :: .ref a :: rest)
    (hd6 : decode c.code g.pc = .ok (.invokespecial ic, 3))
    (hRframes : names.length + 4 < R.frames) (hRlocals : 2 * g.monitorRoom + ((Value.ref a :: rest).map fun v => v.category).sum + (13 * (names.length + 2) + 42) ≤ R.locals) :
    ∃ (V : State) (ce : Cell) (L : List Loc), Stand p l e R s m₀ args below meth c (V.setCell a ce) (locs ++ L) cells slots ∧ (∀ y ∈ L, y.base = a) ∧ a < V.heap.size ∧ ce.cls = cX ∧ ce.vm = .none ∧
      ∀ target, Steps p.tables e below ((V.setCell a ce).setTop { g with stack := .ref a :: rest, pc := g.pc + 3 }) target → Steps p.tables e below (W.setTop g) target := by
  have howns : e.platform.frameOwnsMonitors = true := by rw [X.admits.platform]
  have hfin : e.platform.finalization = false := by rw [X.admits.platform]
  have hpl : e.platform.magicAccessors = ({} : Platform).magicAccessors := by rw [X.admits.platform]
  have a' : ∀ x, x ∈ pmOwn own ic cls Y0 i7 b7 names → x.holds args s none s [] = true := fun x hx => h x hx
  obtain ⟨T, Z0, L, -, Y⟩ := ThrowableC.of_atoms (args := args) howns hfin hpl (fun x hx => h x (by simp [pmOwn, hx]))
  obtain ⟨Z, M, LZ, LM, hnZ⟩ := Init0T.ofS_atoms (args := args) hpl L Y (fun x hx => h x (by simp [pmOwn, hx]))
  obtain ⟨P1, L1, hP1m, hP1s⟩ := PassC.ofS_atoms (args := args) (s := s) hpl (X := cls) (Y := Y0) (Bundle.fit_spec hcls).1 (Bundle.fit_spec hY0).2 z0 z1 z2 z5 (fun x hx => h x (by simp [pmOwn, hx]))
  obtain ⟨P2, Pr, hlen2, L2, hL2, hP2m, hlink2, hlinkr⟩ := Bundle.chainS (args := args) hpl hnZ names Y0 hY0 hnames (fun x hx => h x (by simp [pmOwn, hx]))
  have hfound : s.vm.findClass cls = some P1.m.cls := findClass_of_methodNamed hP1m
  cases Option.some.inj (hfoundX.symm.trans hfound)
  obtain ⟨c1, kX', hc1, hk, hord, -, -, hn6⟩ := Cond.instantiable_spec (a' (.instantiable cls 6) (by simp [pmOwn]))
  cases Option.some.inj (hc1.symm.trans hfound)
  cases Option.some.inj (hkX.symm.trans hk)
  have hsel0 : selectMethod e.platform s.vm P1.m.cls T.fill0 = .method T.fill0 := by
    obtain ⟨c2, r2, m2, q1, q2, q3, q4, -⟩ := Cond.selects_spec (a' (.selects cls Bundle.tFill0 Bundle.tFill0) (by simp [pmOwn]))
    cases Option.some.inj (q1.symm.trans hfound)
    cases Option.some.inj (q2.symm.trans (State.methodFound?_of_named Y.fill0 (by decide)))
    cases Option.some.inj (q3.symm.trans Y.fill0)
    rw [Launch.admits_selectMethod X.admits]; exact q4
  have hselF : selectMethod e.platform s.vm P1.m.cls T.fill = .method T.fill := by
    obtain ⟨c2, r2, m2, q1, q2, q3, q4, -⟩ := Cond.selects_spec (a' (.selects cls Bundle.tFill Bundle.tFill) (by simp [pmOwn]))
    cases Option.some.inj (q1.symm.trans hfound)
    cases Option.some.inj (q2.symm.trans (State.methodFound?_of_named Y.fill (by decide)))
    cases Option.some.inj (q3.symm.trans Y.fill)
    rw [Launch.admits_selectMethod X.admits]; exact q4
  obtain ⟨cellS0, hcS0, hiss⟩ := Y.statics
  obtain ⟨u0, hu0⟩ := Cond.staticRefV Y.unassigned L.unassignedStatic L.statics hcS0 hiss (a' (.isRef (.static Bundle.tN "UNASSIGNED_STACK" Bundle.steD)) (by simp [pmOwn]))
  obtain ⟨sen, hsen⟩ := Cond.staticRefV Y.sentinel L.sentinelStatic L.statics hcS0 hiss (a' (.isRef (.static Bundle.tN "SUPPRESSED_SENTINEL" Bundle.listD)) (by simp [pmOwn]))
  obtain ⟨ci198, i198, fB, hk198, hg198, ha198, hsB, -, hnB, htB, hffB⟩ := Cond.ownField (t := .object "java/lang/Object") Y.found L.cls (by decide +kernel) (a' (.fieldLink Bundle.tN 198 Bundle.tN "backtrace" "Ljava/lang/Object;") (by simp [pmOwn])) (a' (.lays Bundle.tN Bundle.tN "backtrace" "Ljava/lang/Object;") (by simp [pmOwn])) e.platform hpl
  obtain ⟨cellS, hcS', heS, -, hkeep⟩ := X.same.2.2.2.2.2 T.aS cellS0 hcS0
  have hcellS : W.heap[T.aS]? = some cellS := hcS'
  have hout' : ∀ i, (⟨T.aS, i⟩ : Loc) ∉ locs := fun i hmem => by
    have := hlocs _ hmem cellS0 hcS0
    rw [hiss] at this; cases this
  have hknownS : cellS.vm ≠ .unknown := by
    rw [heS]; intro hu
    rw [show cellS0.vm = .unknown from hu] at hiss
    cases hiss
  have hneS : T.aS ≠ a := Nat.ne_of_lt (Nat.lt_of_lt_of_le (Array.getElem?_eq_some_iff.mp hcS0).1 hnew)
  obtain ⟨iM, hffM⟩ := Y.msg
  obtain ⟨tyC, dC, hdC, hdnC⟩ := Cond.laysAt hfound hk Y.cause (a' (.lays cls Bundle.tN "cause" "Ljava/lang/Throwable;") (by simp [pmOwn]))
  obtain ⟨tyS, dS, hdS, hdnS⟩ := Cond.laysAt hfound hk Y.stack (a' (.lays cls Bundle.tN "stackTrace" Bundle.steD) (by simp [pmOwn]))
  obtain ⟨tyP, dP, hdP, hdnP⟩ := Cond.laysAt hfound hk Y.supp (a' (.lays cls Bundle.tN "suppressedExceptions" Bundle.listD) (by simp [pmOwn]))
  obtain ⟨tyM, dM, hdM, hdnM⟩ := Cond.laysAt hfound hk hffM (a' (.lays cls Bundle.tN "detailMessage" "Ljava/lang/String;") (by simp [pmOwn]))
  obtain ⟨tyB, dB, hdB, hdnB⟩ := Cond.laysAt hfound hk hffB (a' (.lays cls Bundle.tN "backtrace" "Ljava/lang/Object;") (by simp [pmOwn]))
  have bC := Cond.laysApart hdB hdC hdnB hdnC (by rw [hnB, Y.causeName]; decide)
  have bS := Cond.laysApart hdB hdS hdnB hdnS (by rw [hnB, Y.stackName]; decide)
  have bP := Cond.laysApart hdB hdP hdnB hdnP (by rw [hnB, Y.suppName]; decide)
  have hskip : SkipFacts T e.platform s (fun u => u) u0 ((preparedCellV T.toThrowableT (freshCell P1.m.cls kX) a u0 sen).withEntry W.cur) :=
    ⟨{ ci198 := ci198, i198 := i198, fBack := fB }, ⟨hk198, hg198, ha198, hsB⟩, by
      have := fresh_default (c := P1.m.cls) tyB
      rw [htB] at this
      simpa [preparedCellV, Cell.setSlot, Cell.withEntry, Array.getElem?_setIfInBounds, bC, bS, bP, bC.symm, bS.symm, bP.symm, defaultValue] using this, fun _ _ => rfl⟩
  obtain ⟨tm, methC, cdC, kC, vm₁, hnC, -, -, -, -, -, -, -, hW₁, st1⟩ := Steps.initColdS (tb := p.tables) (e := e) (below := below) (s := s) (U := W) X.here hexec X.warmed hpl hown (t := Bundle.initS cls) rfl rfl (Bundle.fit_spec hcls).2
    (a' (.methodLink own ic (Bundle.initS cls)) (by simp [pmOwn])) (h (.instanceMethod (Bundle.initS cls)) (by simp [pmOwn, Bundle.passSAtoms])) (bytes := b7) (maxL := 2) (h (.code (Bundle.initS cls) b7 2 none) (by simp [pmOwn, Bundle.passSAtoms]))
    (f := g) hg (a := a) (msg := msg) (rest := .ref a :: rest) hstack hd6
  cases Option.some.inj (hnC.symm.trans hP1m)
  have X₁ := X.noted hW₁
  obtain ⟨vm₂, X₂, st2⟩ := X₁.ctorMessageOffV hexec (g := { g with stack := .ref a :: rest }) hg hsize T L Z LZ M LM (P1 :: P2 :: Pr)
    (fun P hP => by rcases List.mem_cons.mp hP with rfl | hP; exact L1; rcases List.mem_cons.mp hP with rfl | hP; exact L2; exact hL2 P hP) ⟨Option.some.inj (hP1s.symm.trans hP2m), hlink2, hlinkr⟩ (u0 := u0) (sen := sen) (self := a) hmsg (cell := freshCell P1.m.cls kX) (cellS := cellS)
    hcell (fun _ => by simp) (by simp) rfl rfl hsel0 hselF hcellS hneS hknownS (by rw [hkeep _ (hout' _)]; exact hu0) (by rw [hkeep _ (hout' _)]; exact hsen)
    (Takes.of_laid hk hord tyC (by rw [Y.causeType]; rfl)) (Takes.of_laid hk hord tyS (by rw [Y.stackType]; exact fits_refV_array _ u0)) (Takes.of_laid hk hord tyP (by rw [Y.suppType]; exact fits_refV_object _ sen))
    (Takes.of_laid hk hord tyM (by rw [Y.msgType]; exact fits_refV_object _ ⟨msg, hmsg⟩)) Y.objLocals hskip htr [] hd6
    (by simp only [List.length_cons, hlen2]; omega) (by simp only [List.length_cons, hlen2]; exact hRlocals)
  have hlt : a < ((W.setVm vm₁).setVm vm₂).heap.size := (Array.getElem?_eq_some_iff.mp hcell).1
  refine ⟨(W.setVm vm₁).setVm vm₂, _, _, X₂, fun y hy => ?_, hlt, rfl, rfl, fun target hwalk => st1 _ (fun acts => ?_)⟩
  · simp only [List.mem_cons, List.not_mem_nil, or_false] at hy
    rcases hy with rfl | rfl | rfl | rfl | rfl <;> rfl
  · rw [doInvoke_state]
    exact st2 _ hwalk
end PMN
/-- a throw's words, the text's constructor linked at i7 -/
def pmThN (own : String) (ik is ic : Nat) (E : String) : Prop := ∃ (Y0 : String) (names : List String) (text : String) (i7 : Nat) (b7 : ByteArray), Bundle.fit E = true ∧ Bundle.fit Y0 = true ∧ (∀ n ∈ names, Bundle.fit n = true) ∧ names.length ≤ 2 ∧
  (decode b7 0 = .ok (.aload_n 0, 1) ∧ decode b7 1 = .ok (.aload_n 1, 1) ∧ decode b7 2 = .ok (.invokespecial i7, 3) ∧ decode b7 5 = .ok (.return_, 1)) ∧
  Cond.classLink own ik E ∈ gw ∧ Cond.initialized E ∈ gw ∧ Cond.stringRef own is text ∈ sw ∧ (∀ w ∈ (pmOwn own ic E Y0 i7 b7 names).filter vx_no, w ∈ gw ∨ w ∈ nw) ∧ ∀ w ∈ Cond.classLink own ik E :: Cond.initialized E :: (pmOwn own ic E Y0 i7 b7 names).filter vx_no, vx_ot w = true
theorem e_throwN {l : Launch} {K : pmKey} {R : Room} {n u w pc : Nat} {lo : List (Option Value)} {st : List Value} {M M' : pmM} {E : String} {ik is ic mc ms : Nat} (d0 : decode K.2.1 pc = .ok (.new ik, 3)) (d3 : decode K.2.1 (pc + 3) = .ok (.dup, 1)) (d4 : decode K.2.1 (pc + 4) = .ok (.ldc is, 2)) (d6 : decode K.2.1 (pc + 6) = .ok (.invokespecial ic, 3)) (d9 : decode K.2.1 (pc + 9) = .ok (.athrow, 1))
    (hth : pmThN K.1.cls ik is ic E) (htab : K.2.2.2.2 = []) (hR : 6 < R.frames ∧ 103 ≤ R.locals) (hr : (st.map fun v => v.category).sum ≤ 8) (hc : u + 1 ≤ R.cells ∧ w + 6 ≤ R.slots) (hm : u + 1 ≤ mc ∧ w + 6 ≤ ms) (hM : M = M') :
    Ev l K (gM n mc ms (.inr E) M') R n u w pc lo st M := by
  subst hM
  refine fun p e s m args below meth c D cy L A H locs ls X0 hl hP hS => ?_
  obtain ⟨Y0, names, text, i7, b7, t1, t1b, t2, t3, ⟨z0, z1, z2, z5⟩, t4, t5, t6, t7, t8⟩ := hth
  have hts := X0.2.2.2.2.1
  obtain ⟨hKk, hZ, -⟩ := X0.2.2.2.2.2.2.2.2.2.2
  obtain ⟨sa, hstr⟩ := hKk.2.2.1 _ _ _ t6
  have ht : c.exceptionTable.toList = [] := by rw [X0.2.2.2.2.2.2.2.1, htab]; rfl
  have hrr := pm_rest L hr
  have hown := X0.2.2.2.1
  have hexec := X0.1
  have hb := X0.2.1
  have hlocks := X0.2.2.2.2.2.1
  have hat : ∀ w ∈ (pmOwn K.1.cls ic E Y0 i7 b7 names).filter vx_no, w.before args s = true := fun w hw => (t7 w hw).elim (fun h => hts w h) (fun h => nw_use h (hKk.2.1 w h))
  intro T hT X
  have htr : e.platform.stackTraces = false := (show e.platform.stackTraces = l.stackTraces by rw [X.admits.platform]).trans X0.2.2.2.2.2.2.2.2.2.1
  have Y := vx_rebase X (R' := { frames := R.frames, locals := R.locals, cells := 1, slots := 6 }) (Nat.le_refl _) (Nat.le_refl _) hc.1 hc.2
  obtain ⟨s', hA⟩ : ∃ z, z = (T.setVm s.vm).setFrames (.invoking m args :: below) := ⟨_, rfl⟩
  rw [← hA] at Y
  have hvm : s'.vm = s.vm := by rw [hA]; rfl
  have hhp : s'.heap = H := by rw [hA]; exact hT
  have hW0 : s.WarmedH s'.vm := by rw [hvm]; exact State.WarmedH.refl s
  have hat' : ∀ w ∈ (pmOwn K.1.cls ic E Y0 i7 b7 names).filter vx_no, w.before args s' = true := fun w hw => vx_ot_at hW0 hvm.symm (t8 w (List.mem_cons_of_mem _ (List.mem_cons_of_mem _ hw))) (hat w hw)
  have hk' : (Cond.classLink K.1.cls ik E).before args s' = true := vx_ot_at hW0 hvm.symm (t8 _ List.mem_cons_self) (hts _ t4)
  have hini' : (Cond.initialized E).before args s' = true := vx_ot_at hW0 hvm.symm (t8 _ (List.mem_cons_of_mem _ List.mem_cons_self)) (hts _ t5)
  have hU' : vx_Zq Bundle.tN "UNASSIGNED_STACK" Bundle.steD A s' s'.heap := by rw [hhp]; exact vx_Zq.moved hW0.alike (hZ.1.kept hS.2.1)
  have hN' : vx_Zq Bundle.tN "SUPPRESSED_SENTINEL" Bundle.listD A s' s'.heap := by rw [hhp]; exact vx_Zq.moved hW0.alike (hZ.2.kept hS.2.1)
  have h : ∀ w ∈ pmOwn K.1.cls ic E Y0 i7 b7 names, w.before args s' = true := vx_own hat' (vx_isRefq hU'.1) (vx_isRefq hN'.1) hU'.2.word hN'.2.word
  have hown' : s'.vm.findClass K.1.cls = some m.cls := by rw [hvm]; exact hown
  have hins : (Cond.instantiable E 6).before args s' = true := h _ (by simp [pmOwn])
  obtain ⟨vm₁, cX, kX, hfX, hkX, -, -, X₁, st1⟩ := Y.newCold hexec (own := K.1.cls) (C := E) (index := ik) (n := 6) hown' hk' hins hini'
    (g := F0 m pc ls (st.map (pmV L))) rfl (by rw [hb]; exact d0) (Nat.le_refl _) (Nat.le_refl _)
  generalize hT1 : (T.setVm vm₁).pushCell { cls := cX, slots := kX.instanceTypes.map defaultValue, vm := .none } = T1 at X₁ st1
  have hcat : (Value.ref T.heap.size).category = 1 := rfl
  have hcellA : T1.heap[T.heap.size]? = some (freshCell cX kX) := by rw [← hT1]; exact State.heap_pushCell_size _ _
  have d3' : decode c.code (pc + 3) = .ok (.dup, 1) := by rw [hb]; exact d3
  have d4' : decode c.code (pc + 4) = .ok (.ldc is, 2) := by rw [hb]; exact d4
  have hstr' : vk_R K.1.cls is text sa s' := vk_R.warm hW0 hstr
  obtain ⟨V, ce, L9, X₂, hL9, hlt, hce1, hce2, st2⟩ := pm_ctorMade X₁ hexec htr (own := K.1.cls) (cls := E) (Y0 := Y0) (names := names) (ic := ic) hown' t1 t1b t2 z0 z1 z2 z5 h (fun x hx => nomatch hx) hfX hkX hcellA (by rw [hhp, hT]; exact Nat.le_refl _) (msg := .ref sa) rfl
    (g := { method := m, pc := pc + 6, locals := ls, stack := .ref sa :: .ref T.heap.size :: .ref T.heap.size :: st.map (pmV L), locked := none }) rfl (hl.1.trans X0.2.2.1.symm) (rest := st.map (pmV L)) rfl
    (by rw [hb]; exact d6) (show names.length + 4 < R.frames by omega) (by
      have : 13 * (names.length + 2) ≤ 52 := by omega
      simp only [List.map_cons, List.sum_cons, hcat]
      have h9 : 2 * 0 + (1 + ((st.map (pmV L)).map fun v => v.category).sum) + (13 * (names.length + 2) + 42) ≤ R.locals := by omega
      exact h9)
  obtain ⟨hwalk, hrun, hended, hWU, hsame⟩ := X₂.athrowLeaves hexec (g := { method := m, pc := pc + 9, locals := ls, stack := .ref T.heap.size :: st.map (pmV L), locked := none }) rfl rfl rfl (by rw [ht]; exact fun x hx => nomatch hx) (a := T.heap.size) (rest := st.map (pmV L)) rfl (by rw [hb]; exact d9)
  generalize hU9 : (V.setCell T.heap.size ce).setFrames (.throwing T.heap.size :: below) = U at hwalk hrun hended hWU hsame
  have hceU : U.heap[T.heap.size]? = some ce := by rw [← hU9]; exact heapAt_setCell_self _ hlt
  have hsame' : s'.sameButNew ({ U with vm := s'.vm } : State) [] (0 + 1) (0 + 6) := hsame.weaken (fun y hy hlt' => by
    exfalso
    have hy2 := hL9 y (by simpa using hy)
    rw [hy2, hhp, ← hT] at hlt'
    exact Nat.lt_irrefl _ hlt') (Nat.le_refl _) (Nat.le_refl _)
  obtain ⟨f1, f2⟩ := vx_frame hsame'
  rw [hhp] at f1 f2
  have hWs : s.WarmedH U.vm := State.WarmedH.trans hW0 hWU
  have hcl : s.vm.findClass E = some ce.cls := by
    rw [hvm] at hfX
    rw [hce1]; exact hfX
  have hall : s.sameButNew ({ U with vm := s.vm } : State) locs mc ms := by
    subst hA
    obtain ⟨e1, e2⟩ := hsame'
    rw [State.setFrames_setFrames] at e1
    have h2 : (T.setVm s.vm).sameButNew ({ U with vm := s.vm } : State) [] (0 + 1) (0 + 6) := ⟨e1, e2⟩
    have h3 := X.same.trans h2
    rw [List.append_nil] at h3
    exact h3.mono hm.1 hm.2
  have f3 : ∀ q : Nat, q < H.size → U.heap[q]? = H[q]? := fun q hq => f2 q hq (fun z hz => nomatch hz)
  refine ⟨U, ?_, .threw T.heap.size, hrun, hended, Or.inr ⟨T.heap.size, rfl, E, ce, locs, ⟨rfl, hP.kept (fun k q hq => f3 _ (hP k q hq).lt), Nat.le_trans hS.1 f1, fun q h1 h2 => (f3 q (Nat.lt_of_lt_of_le h1 hS.1)).trans (hS.2.1 q h1 h2)⟩, hceU, hce2, hcl, hWs, hall, hS.2.2⟩⟩
  refine st1 _ ?_
  show Steps p.tables e below (T1.setTop { method := m, pc := pc + 3, locals := ls, stack := .ref T.heap.size :: st.map (pmV L), locked := none }) _
  jvm_step X₁.here [X₁.here.top, hexec, d3', Value.category]
  exact X₁.ldcString hexec (own := K.1.cls) (text := text) (index := is) (a := sa) hown' hstr'.1 hstr'.2
    (g := { method := m, pc := pc + 4, locals := ls, stack := .ref T.heap.size :: .ref T.heap.size :: st.map (pmV L), locked := none }) rfl d4' _ (st2 _ hwalk)
set_option maxRecDepth 100000 in
theorem th_104_106_108 : pmThN RX3 104 106 108 "java/util/NoSuchElementException" := ⟨"java/lang/RuntimeException", ["java/lang/Exception"], "it is no member of this object", 13, prog_21_method_4_code, by decide +kernel, by decide +kernel, by decide +kernel, by decide, ⟨by decide +kernel, by decide +kernel, by decide +kernel, by decide +kernel⟩, gw_of 450 (by decide +kernel) rfl, gw_of 43 (by decide +kernel) rfl, sw_of 459 (by decide +kernel) rfl, th_in (by decide +kernel), th_ot (by decide +kernel)⟩
set_option maxRecDepth 100000 in
theorem th_104_222_108 : pmThN RX3 104 222 108 "java/util/NoSuchElementException" := ⟨"java/lang/RuntimeException", ["java/lang/Exception"], "no rule ahead of it matches one of its packets", 13, prog_21_method_4_code, by decide +kernel, by decide +kernel, by decide +kernel, by decide, ⟨by decide +kernel, by decide +kernel, by decide +kernel, by decide +kernel⟩, gw_of 450 (by decide +kernel) rfl, gw_of 43 (by decide +kernel) rfl, sw_of 616 (by decide +kernel) rfl, th_in (by decide +kernel), th_ot (by decide +kernel)⟩
set_option maxRecDepth 100000 in
theorem th_104_249_108 : pmThN RX3 104 249 108 "java/util/NoSuchElementException" := ⟨"java/lang/RuntimeException", ["java/lang/Exception"], "there is no such rule", 13, prog_21_method_4_code, by decide +kernel, by decide +kernel, by decide +kernel, by decide, ⟨by decide +kernel, by decide +kernel, by decide +kernel, by decide +kernel⟩, gw_of 450 (by decide +kernel) rfl, gw_of 43 (by decide +kernel) rfl, sw_of 490 (by decide +kernel) rfl, th_in (by decide +kernel), th_ot (by decide +kernel)⟩
