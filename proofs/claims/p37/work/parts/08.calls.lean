/-! ===== calls, returns, throws ===== -/
theorem nw_use {w : Cond} {A : Array Value} {U : State} (hw : w ∈ nw) (h : va_Nw w U) : w.before A U = true := by
  have hn := (List.mem_filter.mp hw).2
  cases w <;> first | exact Bool.noConfusion (show false = true from hn) | exact va_Nw.use rfl h
theorem pm_met {l : Launch} {y : MethodName} {ws : List Cond} {rm : Room} {Pc : Array Value → State → Prop} {Qc : Array Value → State → Outcome → State → Prop} {XC : String → State → State → Prop} {mc ms : Nat} {free : Addr → Prop} (h : vx_Met l y ws rm Pc Qc XC mc ms free) (hx : ∀ E st t, ¬ XC E st t) : Met l y ws rm Pc Qc mc ms free := by
  intro p e ha hc hk s m args below hf happ hP hK
  obtain ⟨n, o, h1, h2, h3, h4⟩ := h p e ha hc hk s m args below hf happ hP hK
  refine ⟨n, o, h1, h2, h3, ?_⟩
  rcases h4 with h4 | ⟨q, -, E, ce, L, hx', -⟩
  · exact h4
  · exact absurd hx' (hx _ _ _)
theorem wU_good {K2 : pmKey} (h : Cond.code K2.1 K2.2.1 K2.2.2.1 K2.2.2.2.1 ∈ gw) : GoodIn gw (wU K2) := fun w hw => by
  rcases List.mem_cons.mp hw with rfl | hw
  · exact ⟨h, gw_good h⟩
  · exact ⟨hw, gw_good hw⟩
theorem wH_good {K2 : pmKey} (h : Cond.codeWith K2.1 K2.2.1 K2.2.2.1 K2.2.2.2.1 K2.2.2.2.2 ∈ gw) : GoodIn gw (wH K2) := fun w hw => by
  rcases List.mem_cons.mp hw with rfl | hw
  · exact ⟨h, gw_good h⟩
  · exact ⟨hw, gw_good hw⟩
section PMC
variable {p : Program} {l : Launch} {e : Env} {R : Room} {s : State} {m : MethodId} {args : Array Value} {below : List Frame} {meth : Method} {c : Code} {H : Heap} {locs : List Loc} {u w : Nat} {Q : State → Prop}
variable {pc : Nat} {ls : Array Slot} {st0 rest : List Value} {a : Array Value} {A : Nat → Prop} {D : va_G} {cy : Nat → ClassId} {L : Nat → Nat} {n : Nat} {res : pmRes} {M M' : pmM} {mc ms : Nat} {K : pmKey}
theorem pm_blind {vs : List Value} : FrameBlind (pmPc vs n M D cy L A) := fun a U g mk q => by
  obtain ⟨h1, h2, h3, h4, h5, h6, h7⟩ := q
  exact ⟨h1, pmK.warm (s := U) (U := U.calling g mk a) (State.WarmedH.refl U) h2, ⟨vx_Zq.moved (u := U) (U := U.calling g mk a) (Vm.Alike.refl _) h3.1, vx_Zq.moved (u := U) (U := U.calling g mk a) (Vm.Alike.refl _) h3.2⟩, h4, h5, h6, h7⟩
theorem pm_pre (X : pmX l K n p s m args meth c D cy L A) (hP : va_P D pmCl (pmWl cy L M n) H) (hS : va_S A s.heap H locs) (vs : List Value) (U : State) (hU : U.heap = H) (hW : s.WarmedH U.vm) : pmPc vs n M D cy L A (vs.map (pmV L)).toArray U := by
  obtain ⟨-, -, -, -, -, -, -, -, -, -, hK, hZ, hA, hi, hAi⟩ := X
  refine ⟨rfl, pmK.warm hW hK, ⟨?_, ?_⟩, fun q hq => hA q (Nat.le_trans hS.1 (by rw [hU] at hq; exact hq)), hi, hAi, by rw [hU]; exact hP⟩
  · rw [hU]; exact (hZ.1.kept hS.2.1).moved hW.alike
  · rw [hU]; exact (hZ.2.kept hS.2.1).moved hW.alike
theorem pm_run (hr : vx_Run p l e R s m args below meth c H locs u w mc ms (F0 m pc ls st0) rest (pmQ n res M' D cy L A a) (pmXr n res M' D cy L A) A) (hS : va_S A s.heap H locs)
    (kv : ∀ (v : Option Value) (H1 : Heap) (locs1 : List Loc), res = .inl v → va_P D pmCl (pmWl cy L M' n) H1 → va_S A s.heap H1 locs1 → W p l e R s m args below meth c H1 locs1 (u + mc) (w + ms) Q (F0 m (pc + 3) ls ((v.map (pmV L)).toList ++ rest)))
    (kx : ∀ (E : String) (H1 : Heap) (locs1 : List Loc) (ce : Cell) (q9 : Addr), res = .inr E → va_P D pmCl (pmWl cy L M' n) H1 → va_S A s.heap H1 locs1 → H1[q9]? = some ce → ce.vm = .none → s.vm.findClass E = some ce.cls → vx_W p l e R s m args below meth c H1 locs1 (u + mc) (w + ms) Q (F0 m pc ls rest) q9) :
    W p l e R s m args below meth c H locs u w Q (F0 m pc ls st0) := by
  intro T hT X
  rcases hr T hT X with ⟨v, st₀, t, T', L', h0, X', hL, e1, e2, ⟨⟨v', hv1, hv2⟩, hP1, hF⟩, st⟩ | ⟨q, st₀, t, T', L', E, ce, h0, X', hL, e1, e2, ⟨hres, hP1, hF⟩, hce, hcv, hcl, st⟩
  · obtain ⟨k1, k2, k3⟩ := vx_keep h0 e1 hS (fun _ _ h => h) (fun _ h => h) hL hF
    have hv3 : v = v'.map (pmV L) := Outcome.returned.inj hv2
    subst hv3
    obtain ⟨t2, a1, b1⟩ := kv v' T'.heap (locs ++ L') hv1 (by rw [e1]; exact hP1) k3 T' rfl X'
    exact ⟨t2, st t2 a1, b1⟩
  · obtain ⟨k1, k2, k3⟩ := vx_keep h0 e1 hS (fun _ _ h => h) (fun _ h => h) hL hF
    obtain ⟨t2, a1, b1⟩ := kx E T'.heap (locs ++ L') ce q hres (by rw [e1]; exact hP1) k3 (by rw [e1]; exact hce) hcv hcl T' rfl X'
    exact ⟨t2, st.trans a1, b1⟩
theorem pm_runN (hr : va_Run p l e R s m args below meth c H locs u w mc ms (F0 m pc ls st0) rest (pmQ n res M' D cy L A a) A) (hS : va_S A s.heap H locs)
    (kv : ∀ (v : Option Value) (H1 : Heap) (locs1 : List Loc), res = .inl v → va_P D pmCl (pmWl cy L M' n) H1 → va_S A s.heap H1 locs1 → W p l e R s m args below meth c H1 locs1 (u + mc) (w + ms) Q (F0 m (pc + 3) ls ((v.map (pmV L)).toList ++ rest))) :
    W p l e R s m args below meth c H locs u w Q (F0 m pc ls st0) := by
  intro T hT X
  obtain ⟨v, st₀, t, T', L', h0, X', hL, e1, e2, ⟨⟨v', hv1, hv2⟩, hP1, hF⟩, st⟩ := hr T hT X
  obtain ⟨k1, k2, k3⟩ := vx_keep h0 e1 hS (fun _ _ h => h) (fun _ h => h) hL hF
  have hv3 : v = v'.map (pmV L) := Outcome.returned.inj hv2
  subst hv3
  obtain ⟨t2, a1, b1⟩ := kv v' T'.heap (locs ++ L') hv1 (by rw [e1]; exact hP1) k3 T' rfl X'
  exact ⟨t2, st t2 a1, b1⟩
end PMC
/-- the words of a call -/
abbrev pmMh (y : MethodName) (k : Nat) : Prop := y.cls ≠ "java/lang/invoke/MethodHandle" ∧ y.cls ≠ "java/lang/invoke/VarHandle" ∧ (parseMethodDescriptor y.desc).map (fun d => d.parameters.length) = some k
def pmCs (own : String) (idx : Nat) (K2 : pmKey) (k : Nat) : Prop := Cond.methodLink own idx K2.1 ∈ gw ∧ Cond.static K2.1 ∈ gw ∧ Cond.initialized K2.1.cls ∈ gw ∧ Cond.code K2.1 K2.2.1 K2.2.2.1 K2.2.2.2.1 ∈ gw ∧ pmMh K2.1 k
def pmCsN (own : String) (idx : Nat) (K2 : pmKey) (k : Nat) : Prop := (∃ host, Cond.methodLinkNest own idx K2.1 host ∈ nw) ∧ Cond.static K2.1 ∈ gw ∧ Cond.initialized K2.1.cls ∈ gw ∧ Cond.code K2.1 K2.2.1 K2.2.2.1 K2.2.2.2.1 ∈ gw ∧ pmMh K2.1 k
def pmCw (own : String) (idx : Nat) (K2 : pmKey) (k : Nat) : Prop := Cond.methodLink own idx K2.1 ∈ gw ∧ Cond.static K2.1 ∈ gw ∧ Cond.initialized K2.1.cls ∈ gw ∧ Cond.codeWith K2.1 K2.2.1 K2.2.2.1 K2.2.2.2.1 K2.2.2.2.2 ∈ gw ∧ pmMh K2.1 k
def pmCv (own : String) (idx : Nat) (K2 : pmKey) (k ci : Nat) : Prop := Cond.methodLink own idx K2.1 ∈ gw ∧ Cond.instanceMethod K2.1 ∈ gw ∧ Cond.selects K2.1.cls K2.1 K2.1 ∈ gw ∧ Cond.initialized K2.1.cls ∈ gw ∧ Cond.code K2.1 K2.2.1 K2.2.2.1 K2.2.2.2.1 ∈ gw ∧ pmMh K2.1 k ∧ ∃ (T : u_T) (N : Nat), pmCl[ci]? = some (K2.1.cls, T, N)
def pmCn (own : String) (idx : Nat) (K2 : pmKey) (k ci : Nat) : Prop := (∃ host, Cond.methodLinkNest own idx K2.1 host ∈ nw) ∧ Cond.instanceMethod K2.1 ∈ gw ∧ Cond.selects K2.1.cls K2.1 K2.1 ∈ gw ∧ Cond.initialized K2.1.cls ∈ gw ∧ Cond.code K2.1 K2.2.1 K2.2.2.1 K2.2.2.2.1 ∈ gw ∧ pmMh K2.1 k ∧ ∃ (T : u_T) (N : Nat), pmCl[ci]? = some (K2.1.cls, T, N)
/-- a throw's words -/
def pmTh (own : String) (ik is ic : Nat) (E : String) : Prop := ∃ (names : List String) (text : String), Bundle.fit E = true ∧ (∀ n ∈ names, Bundle.fit n = true) ∧ names.length ≤ 3 ∧ Cond.classLink own ik E ∈ gw ∧ Cond.initialized E ∈ gw ∧ Cond.stringRef own is text ∈ sw ∧ (∀ w ∈ vx_atS own ic E names, w ∈ gw ∨ w ∈ nw) ∧ ∀ w ∈ Cond.classLink own ik E :: Cond.initialized E :: vx_atS own ic E names, vx_ot w = true
def minF (x y : Int32) : Int32 := if y < x then y else x
def pmMin (own : String) (idx : Nat) : Prop := Cond.methodLink own idx Lib.Math.min.name ∈ gw ∧ Cond.static Lib.Math.min.name ∈ gw ∧ Cond.initialized "java/lang/Math" ∈ gw ∧ Cond.code Lib.Math.min.name Lib.Math.min.code 2 (some .int) ∈ gw
section EVC
variable {l : Launch} {K K2 : pmKey} {G : pmG} {R : Room} {n u w pc pc' u' w' d2 mc2 ms2 k idx : Nat} {lo : List (Option Value)} {st st0 vs : List Value} {M M' : pmM} {v : Option Value} {E : String}
theorem pm_rest (L : Nat → Nat) {st : List Value} (h : (st.map fun v => v.category).sum ≤ 8) : ((st.map (pmV L)).map fun v => v.category).sum ≤ 8 := by
  rw [List.map_map, show ((fun v => Value.category v) ∘ pmV L) = (fun v => Value.category v) from funext fun v => pmV_cat L v]
  exact h
theorem pm_vst (L : Nat → Nat) (v : Option Value) (st : List Value) : (v.map (pmV L)).toList ++ st.map (pmV L) = (v.toList ++ st).map (pmV L) := by cases v <;> rfl
theorem pm_stk (L : Nat → Nat) (vs st : List Value) : (vs.reverse ++ st).map (pmV L) = (vs.map (pmV L)).reverse ++ st.map (pmV L) := by rw [List.map_append, List.map_reverse]
theorem e_callS (hd : decode K.2.1 pc = .ok (.invokestatic idx, 3)) (hp : pc + 3 = pc') (hk : pmCs K.1.cls idx K2 k) (hS2 : Sp l K2 n d2 mc2 ms2 vs M (.inl v) M') (hn : vs.length = k) (hst : st0 = vs.reverse ++ st)
    (hR : 10 * d2 + 1 ≤ R.frames ∧ 8 + (K2.2.2.1 + 11) + 128 * d2 ≤ R.locals) (hc : u + mc2 ≤ R.cells ∧ w + ms2 ≤ R.slots) (hu : u + mc2 = u') (hw : w + ms2 = w') (hr : (st.map fun v => v.category).sum ≤ 8)
    (kk : Ev l K G R n u' w' pc' lo (v.toList ++ st) M') : Ev l K G R n u w pc lo st0 M := by
  subst hp; subst hst; subst hu; subst hw
  refine fun p e s m args below meth c D cy L A H locs ls X hl hP hS => ?_
  obtain ⟨k1, k2, k3, k4, k5⟩ := hk
  have hts := X.2.2.2.2.1
  rw [pm_stk]
  refine pm_run (vx_runS (As := vs.map (pmV L)) (rest := st.map (pmV L)) ⟨X.1, X.2.1, X.2.2.1, X.2.2.2.1, hts⟩ (hS2 D cy L A) ⟨callB_of k hts (wU_good k4) rfl rfl rfl (hts _ k3) (hts _ k1) k5 hR, hts _ k2⟩ ⟨pm_blind, pm_pre X hP hS vs⟩ rfl (by rw [List.length_map]; exact hn) hl.1 rfl (lv_room (pm_rest L hr)) hd hc) hS (fun v' H1 locs1 hv hP1 hS1 => ?_) (fun E' H1 locs1 ce q9 hE _ _ _ _ _ => by cases hE)
  cases hv
  rw [pm_vst]
  exact kk p e s m args below meth c D cy L A H1 locs1 ls X hl hP1 hS1
theorem e_callS_x {mcR msR : Nat} (hd : decode K.2.1 pc = .ok (.invokestatic idx, 3)) (hk : pmCs K.1.cls idx K2 k) (hS2 : Sp l K2 n d2 mc2 ms2 vs M (.inr E) M') (hn : vs.length = k) (hst : st0 = vs.reverse ++ st)
    (hR : 10 * d2 + 1 ≤ R.frames ∧ 8 + (K2.2.2.1 + 11) + 128 * d2 ≤ R.locals) (hc : u + mc2 ≤ R.cells ∧ w + ms2 ≤ R.slots) (hr : (st.map fun v => v.category).sum ≤ 8) (htab : K.2.2.2.2 = []) (hm : u + mc2 ≤ mcR ∧ w + ms2 ≤ msR) :
    Ev l K (gM n mcR msR (.inr E) M') R n u w pc lo st0 M := by
  subst hst
  refine fun p e s m args below meth c D cy L A H locs ls X hl hP hS => ?_
  obtain ⟨k1, k2, k3, k4, k5⟩ := hk
  have hts := X.2.2.2.2.1
  rw [pm_stk]
  refine pm_run (vx_runS (As := vs.map (pmV L)) (rest := st.map (pmV L)) ⟨X.1, X.2.1, X.2.2.1, X.2.2.2.1, hts⟩ (hS2 D cy L A) ⟨callB_of k hts (wU_good k4) rfl rfl rfl (hts _ k3) (hts _ k1) k5 hR, hts _ k2⟩ ⟨pm_blind, pm_pre X hP hS vs⟩ rfl (by rw [List.length_map]; exact hn) hl.1 rfl (lv_room (pm_rest L hr)) hd hc) hS (fun v' H1 locs1 hv hP1 hS1 => by cases hv) (fun E' H1 locs1 ce q9 hE hP1 hS1 g1 g2 g3 => ?_)
  cases hE
  have ht : c.exceptionTable.toList = [] := by rw [X.2.2.2.2.2.2.2.1, htab]; rfl
  exact vx_out (by rw [ht]; exact fun x hx => nomatch hx) X.2.2.2.2.2.1 g1 g2 g3 (fun t ht _ => ⟨rfl, by rw [ht]; exact hP1, hS1.F ht⟩) hS1.2.2 hm.1 hm.2
theorem e_callV {a ci N : Nat} (hd : decode K.2.1 pc = .ok (.invokevirtual idx, 3)) (hp : pc + 3 = pc') (hk : pmCv K.1.cls idx K2 k ci) (hS2 : Sp l K2 n d2 mc2 ms2 (.ref a :: vs) M (.inl v) M') (hn : vs.length = k) (hst : st0 = vs.reverse ++ .ref a :: st) (hs : psh a = (ci, N)) (hci : ci < 5) (ha : a < n)
    (hR : 10 * d2 + 1 ≤ R.frames ∧ 8 + (K2.2.2.1 + 11) + 128 * d2 ≤ R.locals) (hc : u + mc2 ≤ R.cells ∧ w + ms2 ≤ R.slots) (hu : u + mc2 = u') (hw : w + ms2 = w') (hr : (st.map fun v => v.category).sum ≤ 8)
    (kk : Ev l K G R n u' w' pc' lo (v.toList ++ st) M') : Ev l K G R n u w pc lo st0 M := by
  subst hp; subst hst; subst hu; subst hw
  refine fun p e s m args below meth c D cy L A H locs ls X hl hP hS => ?_
  obtain ⟨k1, k2, k3, k4, k5, k6, T, N2, k7⟩ := hk
  have hts := X.2.2.2.2.1
  rw [pm_stk]
  have he := pmWl_get (cy := cy) (L := L) (M := M) ha
  rw [pmE_obj hs hci] at he
  refine pm_run (vx_runV (As := vs.map (pmV L)) (rest := st.map (pmV L)) ⟨X.1, X.2.1, X.2.2.1, X.2.2.2.1, hts⟩ (hS2 D cy L A) ⟨callB_of k hts (wU_good k5) rfl rfl rfl (hts _ k4) (hts _ k1) k6 hR, hts _ k2, hts _ k3⟩ ⟨pm_blind, va_recv X.2.2.2.2.2.2.2.2.2.2.1.1 hP k7 he, pm_pre X hP hS (.ref a :: vs)⟩ rfl (by rw [List.length_map]; exact hn) hl.1 rfl (lv_room (pm_rest L hr)) hd hc) hS (fun v' H1 locs1 hv hP1 hS1 => ?_) (fun E' H1 locs1 ce q9 hE _ _ _ _ _ => by cases hE)
  cases hv
  rw [pm_vst]
  exact kk p e s m args below meth c D cy L A H1 locs1 ls X hl hP1 hS1
theorem e_callV_x {a ci N mcR msR : Nat} (hd : decode K.2.1 pc = .ok (.invokevirtual idx, 3)) (hk : pmCv K.1.cls idx K2 k ci) (hS2 : Sp l K2 n d2 mc2 ms2 (.ref a :: vs) M (.inr E) M') (hn : vs.length = k) (hst : st0 = vs.reverse ++ .ref a :: st) (hs : psh a = (ci, N)) (hci : ci < 5) (ha : a < n)
    (hR : 10 * d2 + 1 ≤ R.frames ∧ 8 + (K2.2.2.1 + 11) + 128 * d2 ≤ R.locals) (hc : u + mc2 ≤ R.cells ∧ w + ms2 ≤ R.slots) (hr : (st.map fun v => v.category).sum ≤ 8) (htab : K.2.2.2.2 = []) (hm : u + mc2 ≤ mcR ∧ w + ms2 ≤ msR) :
    Ev l K (gM n mcR msR (.inr E) M') R n u w pc lo st0 M := by
  subst hst
  refine fun p e s m args below meth c D cy L A H locs ls X hl hP hS => ?_
  obtain ⟨k1, k2, k3, k4, k5, k6, T, N2, k7⟩ := hk
  have hts := X.2.2.2.2.1
  rw [pm_stk]
  have he := pmWl_get (cy := cy) (L := L) (M := M) ha
  rw [pmE_obj hs hci] at he
  refine pm_run (vx_runV (As := vs.map (pmV L)) (rest := st.map (pmV L)) ⟨X.1, X.2.1, X.2.2.1, X.2.2.2.1, hts⟩ (hS2 D cy L A) ⟨callB_of k hts (wU_good k5) rfl rfl rfl (hts _ k4) (hts _ k1) k6 hR, hts _ k2, hts _ k3⟩ ⟨pm_blind, va_recv X.2.2.2.2.2.2.2.2.2.2.1.1 hP k7 he, pm_pre X hP hS (.ref a :: vs)⟩ rfl (by rw [List.length_map]; exact hn) hl.1 rfl (lv_room (pm_rest L hr)) hd hc) hS (fun v' H1 locs1 hv hP1 hS1 => by cases hv) (fun E' H1 locs1 ce q9 hE hP1 hS1 g1 g2 g3 => ?_)
  cases hE
  have ht : c.exceptionTable.toList = [] := by rw [X.2.2.2.2.2.2.2.1, htab]; rfl
  exact vx_out (by rw [ht]; exact fun x hx => nomatch hx) X.2.2.2.2.2.1 g1 g2 g3 (fun t ht _ => ⟨rfl, by rw [ht]; exact hP1, hS1.F ht⟩) hS1.2.2 hm.1 hm.2
theorem e_callN {a ci N : Nat} (hd : decode K.2.1 pc = .ok (.invokevirtual idx, 3)) (hp : pc + 3 = pc') (hk : pmCn K.1.cls idx K2 k ci) (hS2 : Sp l K2 n d2 mc2 ms2 (.ref a :: vs) M (.inl v) M') (hn : vs.length = k) (hst : st0 = vs.reverse ++ .ref a :: st) (hs : psh a = (ci, N)) (hci : ci < 5) (ha : a < n)
    (hR : 10 * d2 + 1 ≤ R.frames ∧ 8 + (K2.2.2.1 + 11) + 128 * d2 ≤ R.locals) (hc : u + mc2 ≤ R.cells ∧ w + ms2 ≤ R.slots) (hu : u + mc2 = u') (hw : w + ms2 = w') (hr : (st.map fun v => v.category).sum ≤ 8)
    (kk : Ev l K G R n u' w' pc' lo (v.toList ++ st) M') : Ev l K G R n u w pc lo st0 M := by
  subst hp; subst hst; subst hu; subst hw
  refine fun p e s m args below meth c D cy L A H locs ls X hl hP hS => ?_
  obtain ⟨⟨host, k1⟩, k2, k3, k4, k5, k6, T, N2, k7⟩ := hk
  have hts := X.2.2.2.2.1
  rw [pm_stk]
  have he := pmWl_get (cy := cy) (L := L) (M := M) ha
  rw [pmE_obj hs hci] at he
  refine pm_runN (va_runVN (As := vs.map (pmV L)) (rest := st.map (pmV L)) ⟨X.1, X.2.1, X.2.2.1, X.2.2.2.1, hts⟩ (pm_met (hS2 D cy L A) (fun E st t h => by cases h.1)) ⟨va_cnB k hts (wU_good k5) rfl rfl rfl (X.2.2.2.2.2.2.2.2.2.2.1.2.1 _ k1) (hts _ k4) k6 hR, hts _ k2, hts _ k3⟩ ⟨pm_blind, va_recv X.2.2.2.2.2.2.2.2.2.2.1.1 hP k7 he, pm_pre X hP hS (.ref a :: vs)⟩ rfl (by rw [List.length_map]; exact hn) hl.1 rfl (lv_room (pm_rest L hr)) hd hc) hS (fun v' H1 locs1 hv hP1 hS1 => ?_)
  cases hv
  rw [pm_vst]
  exact kk p e s m args below meth c D cy L A H1 locs1 ls X hl hP1 hS1
theorem e_callSN (hd : decode K.2.1 pc = .ok (.invokestatic idx, 3)) (hp : pc + 3 = pc') (hk : pmCsN K.1.cls idx K2 k) (hS2 : Sp l K2 n d2 mc2 ms2 vs M (.inl v) M') (hn : vs.length = k) (hst : st0 = vs.reverse ++ st)
    (hR : 10 * d2 + 1 ≤ R.frames ∧ 8 + (K2.2.2.1 + 11) + 128 * d2 ≤ R.locals) (hc : u + mc2 ≤ R.cells ∧ w + ms2 ≤ R.slots) (hu : u + mc2 = u') (hw : w + ms2 = w') (hr : (st.map fun v => v.category).sum ≤ 8)
    (kk : Ev l K G R n u' w' pc' lo (v.toList ++ st) M') : Ev l K G R n u w pc lo st0 M := by
  subst hp; subst hst; subst hu; subst hw
  refine fun p e s m args below meth c D cy L A H locs ls X hl hP hS => ?_
  obtain ⟨⟨host, k1⟩, k2, k3, k4, k5⟩ := hk
  have hts := X.2.2.2.2.1
  rw [pm_stk]
  refine pm_runN (va_runSN (As := vs.map (pmV L)) (rest := st.map (pmV L)) ⟨X.1, X.2.1, X.2.2.1, X.2.2.2.1, hts⟩ (pm_met (hS2 D cy L A) (fun E st t h => by cases h.1)) ⟨va_cnB k hts (wU_good k4) rfl rfl rfl (X.2.2.2.2.2.2.2.2.2.2.1.2.1 _ k1) (hts _ k3) k5 hR, hts _ k2, trivial⟩ ⟨pm_blind, pm_pre X hP hS vs⟩ rfl (by rw [List.length_map]; exact hn) hl.1 rfl (lv_room (pm_rest L hr)) hd hc) hS (fun v' H1 locs1 hv hP1 hS1 => ?_)
  cases hv
  rw [pm_vst]
  exact kk p e s m args below meth c D cy L A H1 locs1 ls X hl hP1 hS1
theorem e_mmin {x y : Int32} (hd : decode K.2.1 pc = .ok (.invokestatic idx, 3)) (hp : pc + 3 = pc') (hk : pmMin K.1.cls idx) (hR : 1 ≤ R.frames ∧ 21 ≤ R.locals) (hc : u ≤ R.cells ∧ w ≤ R.slots) (hr : (st.map fun v => v.category).sum ≤ 8)
    (kk : Ev l K G R n u w pc' lo (.int (minF x y) :: st) M) : Ev l K G R n u w pc lo (.int y :: .int x :: st) M := by
  subst hp
  refine fun p e s m args below meth c D cy L A H locs ls X hl hP hS => ?_
  have hts := X.2.2.2.2.1
  have h1 := pm_rest L hr
  exact va_mmin X.1 X.2.1 (X.2.2.1.trans hl.1.symm) X.2.2.2.1 (hts _ hk.1) (hts _ hk.2.1) (hts _ hk.2.2.1) (hts _ hk.2.2.2) hR.1 (by omega) hc.1 hc.2 hd (kk p e s m args below meth c D cy L A H locs ls X hl hP hS)
/-! ends -/
theorem e_iret {ty : FieldType} {x r : Int32} {mc ms : Nat} (hd : decode K.2.1 pc = .ok (.ireturn, 1)) (hr : K.2.2.2.1 = some ty) (hn : narrow ty (.int x) = .int x) (hu : u ≤ mc) (hw : w ≤ ms) (hx : x = r) (hM : M = M') : Ev l K (gM n mc ms (.inl (some (.int r))) M') R n u w pc lo [.int x] M := by
  subst hx; subst hM
  exact fun p e s m args below meth c D cy L A H locs ls X hl hP hS => W.widen hu hw (vx_ret (W.zret X.1 X.2.1 (X.2.2.2.2.2.2.1.trans hr) hn (fun t ht hW => ⟨⟨_, rfl, rfl⟩, by rw [ht]; exact hP, hS.F ht⟩) hS.2.2 hd X.2.2.2.2.2.1))
theorem e_vret {mc ms : Nat} (hd : decode K.2.1 pc = .ok (.return_, 1)) (hr : K.2.2.2.1 = none) (hu : u ≤ mc) (hw : w ≤ ms) (hM : M = M') : Ev l K (gM n mc ms (.inl none) M') R n u w pc lo [] M := by
  subst hM
  exact fun p e s m args below meth c D cy L A H locs ls X hl hP hS => W.widen hu hw (vx_ret (W.vret X.1 X.2.1 (X.2.2.2.2.2.2.1.trans hr) (fun t ht hW => ⟨⟨_, rfl, rfl⟩, by rw [ht]; exact hP, hS.F ht⟩) hS.2.2 hd X.2.2.2.2.2.1))
theorem e_fret {x r : UInt32} {mc ms : Nat} (hd : decode K.2.1 pc = .ok (.freturn, 1)) (hr : K.2.2.2.1 = some .float) (hu : u ≤ mc) (hw : w ≤ ms) (hx : x = r) (hM : M = M') : Ev l K (gM n mc ms (.inl (some (.float r))) M') R n u w pc lo [.float x] M := by
  subst hx; subst hM
  exact fun p e s m args below meth c D cy L A H locs ls X hl hP hS => W.widen hu hw (vx_ret (W.fret X.1 X.2.1 (X.2.2.2.2.2.2.1.trans hr) (fun t ht hW => ⟨⟨_, rfl, rfl⟩, by rw [ht]; exact hP, hS.F ht⟩) hS.2.2 hd X.2.2.2.2.2.1))
theorem e_dret {x r : UInt64} {mc ms : Nat} (hd : decode K.2.1 pc = .ok (.dreturn, 1)) (hr : K.2.2.2.1 = some .double) (hu : u ≤ mc) (hw : w ≤ ms) (hx : x = r) (hM : M = M') : Ev l K (gM n mc ms (.inl (some (.double r))) M') R n u w pc lo [.double x] M := by
  subst hx; subst hM
  exact fun p e s m args below meth c D cy L A H locs ls X hl hP hS => W.widen hu hw (vx_ret (W.dret X.1 X.2.1 (X.2.2.2.2.2.2.1.trans hr) (fun t ht hW => ⟨⟨_, rfl, rfl⟩, by rw [ht]; exact hP, hS.F ht⟩) hS.2.2 hd X.2.2.2.2.2.1))
theorem e_throw {ik is ic mc ms : Nat} (d0 : decode K.2.1 pc = .ok (.new ik, 3)) (d3 : decode K.2.1 (pc + 3) = .ok (.dup, 1)) (d4 : decode K.2.1 (pc + 4) = .ok (.ldc is, 2)) (d6 : decode K.2.1 (pc + 6) = .ok (.invokespecial ic, 3)) (d9 : decode K.2.1 (pc + 9) = .ok (.athrow, 1))
    (hth : pmTh K.1.cls ik is ic E) (htab : K.2.2.2.2 = []) (hR : 6 < R.frames ∧ 103 ≤ R.locals) (hr : (st.map fun v => v.category).sum ≤ 8) (hc : u + 1 ≤ R.cells ∧ w + 6 ≤ R.slots) (hm : u + 1 ≤ mc ∧ w + 6 ≤ ms) (hM : M = M') :
    Ev l K (gM n mc ms (.inr E) M') R n u w pc lo st M := by
  subst hM
  refine fun p e s m args below meth c D cy L A H locs ls X hl hP hS => ?_
  obtain ⟨names, text, t1, t2, t3, t4, t5, t6, t7, t8⟩ := hth
  have hts := X.2.2.2.2.1
  obtain ⟨hKk, hZ, -⟩ := X.2.2.2.2.2.2.2.2.2.2
  obtain ⟨sa, hsa⟩ := hKk.2.2.1 _ _ _ t6
  have ht : c.exceptionTable.toList = [] := by rw [X.2.2.2.2.2.2.2.1, htab]; rfl
  have hrr := pm_rest L hr
  refine vx_throwS X.1 X.2.1 X.2.2.2.2.2.2.2.2.2.1 X.2.2.2.1 t1 t2 (hts _ t4) (hts _ t5) hsa (fun w hw => (t7 w hw).elim (fun h => hts w h) (fun h => nw_use h (hKk.2.1 w h))) t8 hZ.1 hZ.2 hS (hl.1.trans X.2.2.1.symm) d0 d3 d4 d6 d9 (by rw [ht]; exact fun x hx => nomatch hx) (by omega) ?_ hc.1 hc.2 X.2.2.2.2.2.1 (fun t hv hsz hk => ⟨rfl, hP.kept (fun k q hq => hk _ (hP k q hq).lt), Nat.le_trans hS.1 hsz, fun q h1 h2 => (hk q (Nat.lt_of_lt_of_le h1 hS.1)).trans (hS.2.1 q h1 h2)⟩) hS.2.2 hm.1 hm.2
  have : 13 * (names.length + 1) ≤ 52 := by omega
  omega
theorem e_throwW {ik is ic mc ms : Nat} (d0 : decode K.2.1 pc = .ok (.new ik, 3)) (d3 : decode K.2.1 (pc + 3) = .ok (.dup, 1)) (d4 : decode K.2.1 (pc + 4) = .ok (.ldc_w is, 3)) (d7 : decode K.2.1 (pc + 7) = .ok (.invokespecial ic, 3)) (d10 : decode K.2.1 (pc + 10) = .ok (.athrow, 1))
    (hth : pmTh K.1.cls ik is ic E) (htab : K.2.2.2.2 = []) (hR : 6 < R.frames ∧ 103 ≤ R.locals) (hr : (st.map fun v => v.category).sum ≤ 8) (hc : u + 1 ≤ R.cells ∧ w + 6 ≤ R.slots) (hm : u + 1 ≤ mc ∧ w + 6 ≤ ms) (hM : M = M') :
    Ev l K (gM n mc ms (.inr E) M') R n u w pc lo st M := by
  subst hM
  refine fun p e s m args below meth c D cy L A H locs ls X hl hP hS => ?_
  obtain ⟨names, text, t1, t2, t3, t4, t5, t6, t7, t8⟩ := hth
  have hts := X.2.2.2.2.1
  obtain ⟨hKk, hZ, -⟩ := X.2.2.2.2.2.2.2.2.2.2
  obtain ⟨sa, hsa⟩ := hKk.2.2.1 _ _ _ t6
  have ht : c.exceptionTable.toList = [] := by rw [X.2.2.2.2.2.2.2.1, htab]; rfl
  have hrr := pm_rest L hr
  refine vx_throwSW X.1 X.2.1 X.2.2.2.2.2.2.2.2.2.1 X.2.2.2.1 t1 t2 (hts _ t4) (hts _ t5) hsa (fun w hw => (t7 w hw).elim (fun h => hts w h) (fun h => nw_use h (hKk.2.1 w h))) t8 hZ.1 hZ.2 hS (hl.1.trans X.2.2.1.symm) d0 d3 d4 d7 d10 (by rw [ht]; exact fun x hx => nomatch hx) (by omega) ?_ hc.1 hc.2 X.2.2.2.2.2.1 (fun t hv hsz hk => ⟨rfl, hP.kept (fun k q hq => hk _ (hP k q hq).lt), Nat.le_trans hS.1 hsz, fun q h1 h2 => (hk q (Nat.lt_of_lt_of_le h1 hS.1)).trans (hS.2.1 q h1 h2)⟩) hS.2.2 hm.1 hm.2
  have : 13 * (names.length + 1) ≤ 52 := by omega
  omega
theorem sp_of {d mc ms : Nat} {res : pmRes} (hf : l.stackTraces = false) (hy : plainName K.1.cls = true) (hn : vs.length ≤ K.2.2.1) (hv : ∀ v ∈ vs, v.category = 1) (hh : K.2.2.2.2 = []) (body : Ev l K (gM n mc ms res M') (rmd d mc ms) n 0 0 0 (pmLo K.2.2.1 vs) [] M) : Sp l K n d mc ms vs M res M' := by
  intro D cy L A
  refine vx_ofW (cc := K.2.1) (maxL := K.2.2.1) (ret := K.2.2.2.1) hy rfl ?_
  intro p e s m args below meth c s₁ B hml ht hvv
  obtain ⟨rfl, hK, hZ, hA, hi, hAi, hP⟩ := hvv
  have hts := atoms_spec (ws := wU K) B.pre
  obtain ⟨ls, h1, h2⟩ := pm_entry L vs hn hv m
  rw [h1]
  exact body p e s m _ below meth c D cy L A s.heap [] ls ⟨B.exec, B.bytes, hml, findClass_of_methodNamed B.named, fun w hw => hts w (List.mem_cons_of_mem _ hw), B.notSynchronized, B.returns, by rw [hh]; exact List.eq_nil_iff_forall_not_mem.mpr ht, (name_of_methodNamed B.named B.method).1, hf, hK, hZ, hA, hi, hAi⟩ h2 hP va_S.rf
end EVC
