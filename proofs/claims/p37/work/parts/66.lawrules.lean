/-! ===== the law's own rules ===== -/
/-- the law's method: its name and its table of handlers, whatever they are -/
abbrev kLaw (nm : String) (hl : List (Nat × Nat × Nat × Nat)) : pmKey := (⟨"FilterRulesLaw", nm, ""⟩, code, 18, ret, hl)
/-- the arrays of references that the tables say can be made -/
def aoK (U : State) : Prop := va_AO RX2 U ∧ va_AO RX1 U ∧ va_AO RX0 U ∧ va_AOA .int U
theorem aoK.moved {u U : State} (hvm : u.vm.Alike U.vm) (h : aoK u) : aoK U := ⟨h.1.moved hvm, h.2.1.moved hvm, h.2.2.1.moved hvm, arrayOver_alikeB hvm h.2.2.2⟩
/-- where the script lies, and that the law's run writes only what it made -/
def sC (b Ln : Nat) (xs : Nat → Int32) (args : Array Value) (s : State) (L : Nat → Nat) (A : Nat → Prop) : Prop := L 1000 = b ∧ va_X b Ln xs s s.heap ∧ b < s.heap.size ∧ (∀ q, A q → s.heap.size ≤ q) ∧ args = #[Value.ref b] ∧ aoK s
def gS (b Ln : Nat) (xs : Nat → Int32) : pmG := fun below args s _ _ L A t => sC b Ln xs args s L A → lw_Z below #[Value.ref b] s t
/-- the script alone: who reads it wants no more -/
def sD (b Ln : Nat) (xs : Nat → Int32) (s : State) (L : Nat → Nat) (A : Nat → Prop) : Prop := L 1000 = b ∧ va_X b Ln xs s s.heap ∧ b < s.heap.size ∧ ¬ A b
def gSC (b Ln : Nat) (xs : Nat → Int32) (G : pmG) : Prop := ∀ below args s D cy L A t, (sD b Ln xs s L A → G below args s D cy L A t) → G below args s D cy L A t
def gD (b Ln : Nat) (xs : Nat → Int32) (G : pmG) : pmG := fun below args s D cy L A t => sD b Ln xs s L A → G below args s D cy L A t
theorem gD_sc (b Ln : Nat) (xs : Nat → Int32) (G : pmG) : gSC b Ln xs (gD b Ln xs G) := fun _ _ _ _ _ _ _ _ h hd => h hd hd
theorem gS_sc (b Ln : Nat) (xs : Nat → Int32) : gSC b Ln xs (gS b Ln xs) := fun _ _ _ _ _ _ _ _ h hc => h ⟨hc.1, hc.2.1, hc.2.2.1, fun z => by have := hc.2.2.2.1 b z; have := hc.2.2.1; omega⟩ hc
/-- a method that reads the script -/
def SpD (l : Launch) (K : pmKey) (n d mc ms : Nat) (vs : List Value) (M : pmM) (res : pmRes) (M' : pmM) (b Ln : Nat) (xs : Nat → Int32) : Prop :=
  ∀ (D : va_G) (cy : Nat → ClassId) (L : Nat → Nat) (A : Nat → Prop), vx_Met l K.1 (wU K) (rmd d mc ms) (fun v U => pmPc vs n M D cy L A v U ∧ sD b Ln xs U L A) (pmQ n res M' D cy L A) (pmXr n res M' D cy L A) mc ms A
section LAW
variable {l : Launch} {K K2 : pmKey} {G G2 : pmG} {R : Room} {n u w pc pc' u' w' d2 mc2 ms2 k idx : Nat} {lo : List (Option Value)} {st st0 vs : List Value} {M M' : pmM} {v : Option Value} {b Ln : Nat} {xs : Nat → Int32}
theorem e_imp (h : ∀ below args s D cy L A t, G2 below args s D cy L A t → G below args s D cy L A t) (kk : Ev l K G2 R n u w pc lo st M) : Ev l K G R n u w pc lo st M := fun p e s m args below meth c D cy L A H locs ls X hl hP hS => by
  have k := kk p e s m args below meth c D cy L A H locs ls X hl hP hS
  exact fun T hT XT => by
    obtain ⟨t, a, b⟩ := k T hT XT
    exact ⟨t, a, h below args s D cy L A t b⟩
theorem e_D (kk : Ev l K G R n u w pc lo st M) : Ev l K (gD b Ln xs G) R n u w pc lo st M := e_imp (fun _ _ _ _ _ _ _ _ h _ => h) kk
theorem e_wid (h1 : u ≤ u') (h2 : w ≤ w') (kk : Ev l K G R n u' w' pc lo st M) : Ev l K G R n u w pc lo st M :=
  fun p e s m args below meth c D cy L A H locs ls X hl hP hS => W.widen h1 h2 (kk p e s m args below meth c D cy L A H locs ls X hl hP hS)
theorem e_ldc {v : Int32} (hd : decode K.2.1 pc = .ok (.ldc idx, 2)) (hp : pc + 2 = pc') (hw : Cond.constant K.1.cls idx v ∈ gw) (kk : Ev l K G R n u w pc' lo (.int v :: st) M) : Ev l K G R n u w pc lo st M := by
  subst hp
  exact fun p e s m args below meth c D cy L A H locs ls X hl hP hS => lv_ldc X.1 X.2.1 X.2.2.2.1 (X.2.2.2.2.1 _ hw) hd (kk p e s m args below meth c D cy L A H locs ls X hl hP hS)
theorem e_ldc2 {v : Int64} (hd : decode K.2.1 pc = .ok (.ldc2_w idx, 3)) (hp : pc + 3 = pc') (hw : Cond.constantLong K.1.cls idx v ∈ gw) (kk : Ev l K G R n u w pc' lo (.long v :: st) M) : Ev l K G R n u w pc lo st M := by
  subst hp
  exact fun p e s m args below meth c D cy L A H locs ls X hl hP hS => lv_ldc2 X.1 X.2.1 X.2.2.2.1 (X.2.2.2.2.1 _ hw) hd (kk p e s m args below meth c D cy L A H locs ls X hl hP hS)
theorem e_lmul {x y : Int64} (hd : decode K.2.1 pc = .ok (.lmul, 1)) (hp : pc + 1 = pc') (kk : Ev l K G R n u w pc' lo (.long (x * y) :: st) M) : Ev l K G R n u w pc lo (.long y :: .long x :: st) M := by
  subst hp
  exact fun p e s m args below meth c D cy L A H locs ls X hl hP hS => lv_lmul X.1 X.2.1 hd (kk p e s m args below meth c D cy L A H locs ls X hl hP hS)
theorem e_ladd {x y : Int64} (hd : decode K.2.1 pc = .ok (.ladd, 1)) (hp : pc + 1 = pc') (kk : Ev l K G R n u w pc' lo (.long (x + y) :: st) M) : Ev l K G R n u w pc lo (.long y :: .long x :: st) M := by
  subst hp
  exact fun p e s m args below meth c D cy L A H locs ls X hl hP hS => lv_ladd X.1 X.2.1 hd (kk p e s m args below meth c D cy L A H locs ls X hl hP hS)
theorem e_lload_2 {o0 o1 : Option Value} {r : List (Option Value)} {x : Int64} (hd : decode K.2.1 pc = .ok (.lload_n 2, 1)) (hp : pc + 1 = pc') (kk : Ev l K G R n u w pc' (o0 :: o1 :: some (.long x) :: r) (.long x :: st) M) : Ev l K G R n u w pc (o0 :: o1 :: some (.long x) :: r) st M := by
  subst hp
  exact fun p e s m args below meth c D cy L A H locs ls X hl hP hS => lv_lload_n X.1 X.2.1 hd rfl (pm_get (i := 2) hl rfl) (kk p e s m args below meth c D cy L A H locs ls X hl hP hS)
theorem e_lload {i : Nat} {x : Int64} (hd : decode K.2.1 pc = .ok (.lload i, 2)) (hp : pc + 2 = pc') (h : lo[i]? = some (some (.long x))) (kk : Ev l K G R n u w pc' lo (.long x :: st) M) : Ev l K G R n u w pc lo st M := by
  subst hp
  exact fun p e s m args below meth c D cy L A H locs ls X hl hP hS => lv_lload X.1 X.2.1 hd (pm_get hl h) (kk p e s m args below meth c D cy L A H locs ls X hl hP hS)
theorem e_lstore_2 {o0 o1 o2 o3 : Option Value} {r : List (Option Value)} {x : Int64} (hd : decode K.2.1 pc = .ok (.lstore_n 2, 1)) (hp : pc + 1 = pc') (hn : 3 < K.2.2.1) (hw : pmNW o1 = true) (kk : Ev l K G R n u w pc' (o0 :: o1 :: some (.long x) :: none :: r) st M) : Ev l K G R n u w pc (o0 :: o1 :: o2 :: o3 :: r) (.long x :: st) M := by
  subst hp
  exact fun p e s m args below meth c D cy L A H locs ls X hl hP hS => lv_lstore_n X.1 X.2.1 hd rfl hl hn rfl (fun ls' hl' => kk p e s m args below meth c D cy L A H locs ls' X (pm_store2 (i := 2) (v := .long x) hl' (fun k o e h => by cases (show k = 1 by omega); cases h; exact hw)) hP hS)
theorem e_lstore {i : Nat} {x : Int64} {lo' : List (Option Value)} (hd : decode K.2.1 pc = .ok (.lstore i, 2)) (hp : pc + 2 = pc') (hn : i + 1 < K.2.2.1) (hw : ∀ k o, k + 1 = i → lo[k]? = some o → pmNW o = true) (he : (lo.set i (some (.long x))).set (i + 1) none = lo') (kk : Ev l K G R n u w pc' lo' st M) : Ev l K G R n u w pc lo (.long x :: st) M := by
  subst hp; subst he
  exact fun p e s m args below meth c D cy L A H locs ls X hl hP hS => lv_lstore X.1 X.2.1 hd hl hn rfl (fun ls' hl' => kk p e s m args below meth c D cy L A H locs ls' X (pm_store2 (v := .long x) hl' hw) hP hS)
theorem e_jret {x r : Int64} {mc ms : Nat} (hd : decode K.2.1 pc = .ok (.lreturn, 1)) (hr : K.2.2.2.1 = some .long) (hu : u ≤ mc) (hw : w ≤ ms) (hx : x = r) (hM : M = M') : Ev l K (gM n mc ms (.inl (some (.long r))) M') R n u w pc lo [.long x] M := by
  subst hx; subst hM
  exact fun p e s m args below meth c D cy L A H locs ls X hl hP hS => W.widen hu hw (vx_ret (W.lret X.1 X.2.1 (X.2.2.2.2.2.2.1.trans hr) (fun t ht hW => ⟨⟨_, rfl, rfl⟩, by rw [ht]; exact hP, hS.F ht⟩) hS.2.2 hd X.2.2.2.2.2.1))
def pmAbs (own : String) (idx : Nat) : Prop := Cond.methodLink own idx Lib.Math.abs.name ∈ gw ∧ Cond.static Lib.Math.abs.name ∈ gw ∧ Cond.initialized "java/lang/Math" ∈ gw ∧ Cond.code Lib.Math.abs.name Lib.Math.abs.code 1 (some .int) ∈ gw
theorem e_mabs {x : Int32} (hd : decode K.2.1 pc = .ok (.invokestatic idx, 3)) (hp : pc + 3 = pc') (hk : pmAbs K.1.cls idx) (hR : 1 ≤ R.frames ∧ 21 ≤ R.locals) (hc : u ≤ R.cells ∧ w ≤ R.slots) (hr : (st.map fun v => v.category).sum ≤ 8)
    (kk : Ev l K G R n u w pc' lo (.int (if 0 ≤ x then x else 0 - x) :: st) M) : Ev l K G R n u w pc lo (.int x :: st) M := by
  subst hp
  refine fun p e s m args below meth c D cy L A H locs ls X hl hP hS => ?_
  have hts := X.2.2.2.2.1
  have h1 := pm_rest L hr
  exact va_mabs X.1 X.2.1 (X.2.2.1.trans hl.1.symm) X.2.2.2.1 (hts _ hk.1) (hts _ hk.2.1) (hts _ hk.2.2.1) (hts _ hk.2.2.2) hR.1 (by omega) hc.1 hc.2 hd (kk p e s m args below meth c D cy L A H locs ls X hl hP hS)
theorem e_callW (hd : decode K.2.1 pc = .ok (.invokestatic idx, 3)) (hp : pc + 3 = pc') (hk : pmCw K.1.cls idx K2 k) (hS2 : SpH l K2 n d2 mc2 ms2 vs M (.inl v) M') (hn : vs.length = k) (hst : st0 = vs.reverse ++ st)
    (hR : 10 * d2 + 1 ≤ R.frames ∧ 8 + (K2.2.2.1 + 11) + 128 * d2 ≤ R.locals) (hc : u + mc2 ≤ R.cells ∧ w + ms2 ≤ R.slots) (hu : u + mc2 = u') (hw : w + ms2 = w') (hr : (st.map fun v => v.category).sum ≤ 8)
    (kk : Ev l K G R n u' w' pc' lo (v.toList ++ st) M') : Ev l K G R n u w pc lo st0 M := by
  subst hp; subst hst; subst hu; subst hw
  refine fun p e s m args below meth c D cy L A H locs ls X hl hP hS => ?_
  obtain ⟨k1, k2, k3, k4, k5⟩ := hk
  have hts := X.2.2.2.2.1
  rw [pm_stk]
  refine pm_run (vx_runSX (n := k) (hh := K2.2.2.2.2) (As := vs.map (pmV L)) (rest := st.map (pmV L)) ⟨X.1, X.2.1, X.2.2.1, X.2.2.2.1, hts⟩ (hS2 D cy L A) ⟨⟨rfl, rfl, hR.1, hR.2, pay_in hts (wH_good k4), List.mem_cons_self⟩, hts _ k4, hts _ k3, ⟨k5.1, k5.2.1⟩, fun sig h => ?_, hts _ k1, hts _ k2⟩ ⟨pm_blind, pm_pre X hP hS vs⟩ rfl (by rw [List.length_map]; exact hn) hl.1 rfl (lv_room (pm_rest L hr)) hd hc) hS (fun v' H1 locs1 hv hP1 hS1 => ?_) (fun E' H1 locs1 ce q9 hE _ _ _ _ _ => by cases hE)
  · have h2 := k5.2.2
    rw [h] at h2
    exact (Option.some.inj h2).symm
  · cases hv
    rw [pm_vst]
    exact kk p e s m args below meth c D cy L A H1 locs1 ls X hl hP1 hS1
/-- the call of a method that reads the script -/
theorem e_callD (hG : gSC b Ln xs G) (hd : decode K.2.1 pc = .ok (.invokestatic idx, 3)) (hp : pc + 3 = pc') (hk : pmCs K.1.cls idx K2 k) (hS2 : SpD l K2 n d2 mc2 ms2 vs M (.inl v) M' b Ln xs) (hn : vs.length = k) (hst : st0 = vs.reverse ++ st)
    (hR : 10 * d2 + 1 ≤ R.frames ∧ 8 + (K2.2.2.1 + 11) + 128 * d2 ≤ R.locals) (hc : u + mc2 ≤ R.cells ∧ w + ms2 ≤ R.slots) (hu : u + mc2 = u') (hw : w + ms2 = w') (hr : (st.map fun v => v.category).sum ≤ 8)
    (kk : Ev l K G R n u' w' pc' lo (v.toList ++ st) M') : Ev l K G R n u w pc lo st0 M := by
  subst hp; subst hst; subst hu; subst hw
  refine fun p e s m args below meth c D cy L A H locs ls X hl hP hS => ?_
  by_cases hC : sD b Ln xs s L A
  · obtain ⟨k1, k2, k3, k4, k5⟩ := hk
    have hts := X.2.2.2.2.1
    rw [pm_stk]
    have hpre : ∀ U : State, U.heap = H → s.WarmedH U.vm → pmPc vs n M D cy L A (vs.map (pmV L)).toArray U ∧ sD b Ln xs U L A := fun U h1 h2 => by
      obtain ⟨c1, c2, c3, c4⟩ := hC
      refine ⟨pm_pre X hP hS vs U h1 h2, c1, ?_, ?_, c4⟩
      · rw [h1]
        exact (c2.kept (hS.2.1 b c3 c4)).moved h2.alike
      · rw [h1]
        exact Nat.lt_of_lt_of_le c3 hS.1
    refine pm_run (vx_runS (As := vs.map (pmV L)) (rest := st.map (pmV L)) ⟨X.1, X.2.1, X.2.2.1, X.2.2.2.1, hts⟩ (hS2 D cy L A) ⟨callB_of k hts (wU_good k4) rfl rfl rfl (hts _ k3) (hts _ k1) k5 hR, hts _ k2⟩ ⟨fun a U g mk q => ⟨pm_blind a U g mk q.1, q.2.1, va_X.moved (u := U) (U := U.calling g mk a) (Vm.Alike.refl _) q.2.2.1, q.2.2.2.1, q.2.2.2.2⟩, hpre⟩ rfl (by rw [List.length_map]; exact hn) hl.1 rfl (lv_room (pm_rest L hr)) hd hc) hS (fun v' H1 locs1 hv hP1 hS1 => ?_) (fun E' H1 locs1 ce q9 hE _ _ _ _ _ => by cases hE)
    cases hv
    rw [pm_vst]
    exact kk p e s m args below meth c D cy L A H1 locs1 ls X hl hP1 hS1
  · exact fun T hT XT => ⟨_, Steps.refl _, hG below args s D cy L A _ (fun h => absurd h hC)⟩
theorem spD_of {d mc ms : Nat} {res : pmRes} (hf : l.stackTraces = false) (hy : plainName K.1.cls = true) (hn : vs.length ≤ K.2.2.1) (hv : ∀ v ∈ vs, v.category = 1) (hh : K.2.2.2.2 = []) (body : Ev l K (gD b Ln xs (gM n mc ms res M')) (rmd d mc ms) n 0 0 0 (pmLo K.2.2.1 vs) [] M) : SpD l K n d mc ms vs M res M' b Ln xs := by
  intro D cy L A
  refine vx_ofW (cc := K.2.1) (maxL := K.2.2.1) (ret := K.2.2.2.1) hy rfl ?_
  intro p e s m args below meth c s₁ B hml ht hvv
  obtain ⟨⟨rfl, hK, hZ, hA, hi, hAi, hP⟩, hsd⟩ := hvv
  have hts := atoms_spec (ws := wU K) B.pre
  obtain ⟨ls, h1, h2⟩ := pm_entry L vs hn hv m
  rw [h1]
  have k := body p e s m _ below meth c D cy L A s.heap [] ls ⟨B.exec, B.bytes, hml, findClass_of_methodNamed B.named, fun w hw => hts w (List.mem_cons_of_mem _ hw), B.notSynchronized, B.returns, by rw [hh]; exact List.eq_nil_iff_forall_not_mem.mpr ht, (name_of_methodNamed B.named B.method).1, hf, hK, hZ, hA, hi, hAi⟩ h2 hP va_S.rf
  exact fun T hT XT => by
    obtain ⟨t, a, b⟩ := k T hT XT
    exact ⟨t, a, b hsd⟩
theorem e_swT {dflt low high o : Int} {offs : Array Int} {len tgt : Nat} {x : Int32} (hd : decode K.2.1 pc = .ok (.tableswitch dflt low high offs, len)) (hin : ¬ (x.toInt < low ∨ x.toInt > high)) (ho : offs[(x.toInt - low).toNat]? = some o) (ht : (pc : Int) + o = (tgt : Int)) (kk : Ev l K G R n u w tgt lo st M) : Ev l K G R n u w pc lo (.int x :: st) M := by
  refine fun p e s m args below meth c D cy L A H locs ls X hl hP hS => ?_
  intro T hT XT
  obtain ⟨t, a, b⟩ := kk p e s m args below meth c D cy L A H locs ls X hl hP hS T hT XT
  refine ⟨t, ?_, b⟩
  have hexec := X.1
  have hb := X.2.1
  have e1 : pmV L (.int x) = .int x := rfl
  rw [List.map_cons, e1]
  jvm_step XT.here [XT.here.top, hexec, hb, hd, tableswitch.wp_whole, hin, ho, ht]
  exact a
theorem e_swD {dflt low high : Int} {offs : Array Int} {len tgt : Nat} {x : Int32} (hd : decode K.2.1 pc = .ok (.tableswitch dflt low high offs, len)) (hin : x.toInt < low ∨ x.toInt > high) (ht : (pc : Int) + dflt = (tgt : Int)) (kk : Ev l K G R n u w tgt lo st M) : Ev l K G R n u w pc lo (.int x :: st) M := by
  refine fun p e s m args below meth c D cy L A H locs ls X hl hP hS => ?_
  intro T hT XT
  obtain ⟨t, a, b⟩ := kk p e s m args below meth c D cy L A H locs ls X hl hP hS T hT XT
  refine ⟨t, ?_, b⟩
  have hexec := X.1
  have hb := X.2.1
  have e1 : pmV L (.int x) = .int x := rfl
  rw [List.map_cons, e1]
  jvm_step XT.here [XT.here.top, hexec, hb, hd, tableswitch.wp_whole, hin, ht]
  exact a
theorem e_slen (hG : gSC b Ln xs G) (hd : decode K.2.1 pc = .ok (.arraylength, 1)) (hp : pc + 1 = pc') (kk : Ev l K G R n u w pc' lo (.int (nI Ln) :: st) M) : Ev l K G R n u w pc lo (.ref 1000 :: st) M := by
  subst hp
  refine fun p e s m args below meth c D cy L A H locs ls X hl hP hS => ?_
  by_cases hC : sD b Ln xs s L A
  · obtain ⟨c1, c2, c3, c4⟩ := id hC
    have e1 : (Value.ref 1000 :: st).map (pmV L) = .ref b :: st.map (pmV L) := by rw [List.map_cons, ← c1]; rfl
    rw [e1]
    exact va_slen X.1 X.2.1 c2 c3 c4 hS hd (kk p e s m args below meth c D cy L A H locs ls X hl hP hS)
  · exact fun T hT XT => ⟨_, Steps.refl _, hG below args s D cy L A _ (fun h => absurd h hC)⟩
theorem e_sld {i : Int32} {j : Nat} (hG : gSC b Ln xs G) (hd : decode K.2.1 pc = .ok (.iaload, 1)) (hp : pc + 1 = pc') (hi : i = nI j) (hj : j < Ln) (hLn : Ln ≤ 260) (kk : Ev l K G R n u w pc' lo (.int (xs j) :: st) M) : Ev l K G R n u w pc lo (.int i :: .ref 1000 :: st) M := by
  subst hp
  subst hi
  refine fun p e s m args below meth c D cy L A H locs ls X hl hP hS => ?_
  by_cases hC : sD b Ln xs s L A
  · obtain ⟨c1, c2, c3, c4⟩ := id hC
    have e1 : (Value.int (nI j) :: Value.ref 1000 :: st).map (pmV L) = .int (nI j) :: .ref b :: st.map (pmV L) := by rw [List.map_cons, List.map_cons, ← c1]; rfl
    rw [e1]
    refine va_sld X.1 X.2.1 c2 c3 c4 hS (vp_in_nI hj (by omega)) hd ?_
    rw [nI_clamp (show j < 2 ^ 31 by omega)]
    exact kk p e s m args below meth c D cy L A H locs ls X hl hP hS
  · exact fun T hT XT => ⟨_, Steps.refl _, hG below args s D cy L A _ (fun h => absurd h hC)⟩
theorem e_lret {nm : String} {hl : List (Nat × Nat × Nat × Nat)} (hd : decode code pc = .ok (.ireturn, 1)) (hu : u ≤ 666358) (hw : w ≤ 7096541) : Ev l (kLaw nm hl) (gS b Ln xs) room_1 n u w pc lo [.int (nI 1)] M := by
  refine fun p e s m args below meth c D cy L A H locs ls X hl hP hS => ?_
  by_cases hC : sC b Ln xs args s L A
  · obtain ⟨c1, c2, c3, c4, c5, c6⟩ := id hC
    subst c5
    have k : W p l e room_1 s m #[Value.ref b] below meth c H [] u w (lw_Z below #[Value.ref b] s) (F0 m pc ls [.int 1]) := W.widen hu hw (W.base (lw_ret (Drawn.sameBut.refl s.drawn lw_cs) X.1 X.2.1 X.2.2.2.2.2.2.1 X.2.2.2.2.2.1 hd))
    exact fun T hT XT => by
      obtain ⟨t, a, q⟩ := k T hT (Stand.forget (locs := []) XT (fun z hz => c4 _ (hS.2.2 z hz)))
      exact ⟨t, a, fun _ => q⟩
  · exact fun T hT XT => ⟨_, Steps.refl _, fun h => absurd h hC⟩

theorem e_iload_12 {o0 o1 o2 o3 o4 o5 o6 o7 o8 o9 o10 o11 : Option Value} {r : List (Option Value)} {x : Int32} (hd : decode K.2.1 pc = .ok (.iload 12, 2)) (hp : pc + 2 = pc') (kk : Ev l K G R n u w pc' (o0 :: o1 :: o2 :: o3 :: o4 :: o5 :: o6 :: o7 :: o8 :: o9 :: o10 :: o11 :: some (.int x) :: r) (.int x :: st) M) : Ev l K G R n u w pc (o0 :: o1 :: o2 :: o3 :: o4 :: o5 :: o6 :: o7 :: o8 :: o9 :: o10 :: o11 :: some (.int x) :: r) st M :=
  e_iload (i := 12) hd hp rfl kk
theorem e_istore_12 {o0 o1 o2 o3 o4 o5 o6 o7 o8 o9 o10 o11 o12 : Option Value} {r : List (Option Value)} {x : Int32} (hd : decode K.2.1 pc = .ok (.istore 12, 2)) (hp : pc + 2 = pc') (hn : 12 < K.2.2.1) (hw : pmNW o11 = true) (kk : Ev l K G R n u w pc' (o0 :: o1 :: o2 :: o3 :: o4 :: o5 :: o6 :: o7 :: o8 :: o9 :: o10 :: o11 :: some (.int x) :: r) st M) : Ev l K G R n u w pc (o0 :: o1 :: o2 :: o3 :: o4 :: o5 :: o6 :: o7 :: o8 :: o9 :: o10 :: o11 :: o12 :: r) (.int x :: st) M :=
  e_istore (i := 12) hd hp hn (fun k o e h => by cases (show k = 11 by omega); cases h; exact hw) rfl kk
theorem e_iload_13 {o0 o1 o2 o3 o4 o5 o6 o7 o8 o9 o10 o11 o12 : Option Value} {r : List (Option Value)} {x : Int32} (hd : decode K.2.1 pc = .ok (.iload 13, 2)) (hp : pc + 2 = pc') (kk : Ev l K G R n u w pc' (o0 :: o1 :: o2 :: o3 :: o4 :: o5 :: o6 :: o7 :: o8 :: o9 :: o10 :: o11 :: o12 :: some (.int x) :: r) (.int x :: st) M) : Ev l K G R n u w pc (o0 :: o1 :: o2 :: o3 :: o4 :: o5 :: o6 :: o7 :: o8 :: o9 :: o10 :: o11 :: o12 :: some (.int x) :: r) st M :=
  e_iload (i := 13) hd hp rfl kk
theorem e_istore_13 {o0 o1 o2 o3 o4 o5 o6 o7 o8 o9 o10 o11 o12 o13 : Option Value} {r : List (Option Value)} {x : Int32} (hd : decode K.2.1 pc = .ok (.istore 13, 2)) (hp : pc + 2 = pc') (hn : 13 < K.2.2.1) (hw : pmNW o12 = true) (kk : Ev l K G R n u w pc' (o0 :: o1 :: o2 :: o3 :: o4 :: o5 :: o6 :: o7 :: o8 :: o9 :: o10 :: o11 :: o12 :: some (.int x) :: r) st M) : Ev l K G R n u w pc (o0 :: o1 :: o2 :: o3 :: o4 :: o5 :: o6 :: o7 :: o8 :: o9 :: o10 :: o11 :: o12 :: o13 :: r) (.int x :: st) M :=
  e_istore (i := 13) hd hp hn (fun k o e h => by cases (show k = 12 by omega); cases h; exact hw) rfl kk
theorem e_iload_14 {o0 o1 o2 o3 o4 o5 o6 o7 o8 o9 o10 o11 o12 o13 : Option Value} {r : List (Option Value)} {x : Int32} (hd : decode K.2.1 pc = .ok (.iload 14, 2)) (hp : pc + 2 = pc') (kk : Ev l K G R n u w pc' (o0 :: o1 :: o2 :: o3 :: o4 :: o5 :: o6 :: o7 :: o8 :: o9 :: o10 :: o11 :: o12 :: o13 :: some (.int x) :: r) (.int x :: st) M) : Ev l K G R n u w pc (o0 :: o1 :: o2 :: o3 :: o4 :: o5 :: o6 :: o7 :: o8 :: o9 :: o10 :: o11 :: o12 :: o13 :: some (.int x) :: r) st M :=
  e_iload (i := 14) hd hp rfl kk
theorem e_istore_14 {o0 o1 o2 o3 o4 o5 o6 o7 o8 o9 o10 o11 o12 o13 o14 : Option Value} {r : List (Option Value)} {x : Int32} (hd : decode K.2.1 pc = .ok (.istore 14, 2)) (hp : pc + 2 = pc') (hn : 14 < K.2.2.1) (hw : pmNW o13 = true) (kk : Ev l K G R n u w pc' (o0 :: o1 :: o2 :: o3 :: o4 :: o5 :: o6 :: o7 :: o8 :: o9 :: o10 :: o11 :: o12 :: o13 :: some (.int x) :: r) st M) : Ev l K G R n u w pc (o0 :: o1 :: o2 :: o3 :: o4 :: o5 :: o6 :: o7 :: o8 :: o9 :: o10 :: o11 :: o12 :: o13 :: o14 :: r) (.int x :: st) M :=
  e_istore (i := 14) hd hp hn (fun k o e h => by cases (show k = 13 by omega); cases h; exact hw) rfl kk
theorem e_iload_15 {o0 o1 o2 o3 o4 o5 o6 o7 o8 o9 o10 o11 o12 o13 o14 : Option Value} {r : List (Option Value)} {x : Int32} (hd : decode K.2.1 pc = .ok (.iload 15, 2)) (hp : pc + 2 = pc') (kk : Ev l K G R n u w pc' (o0 :: o1 :: o2 :: o3 :: o4 :: o5 :: o6 :: o7 :: o8 :: o9 :: o10 :: o11 :: o12 :: o13 :: o14 :: some (.int x) :: r) (.int x :: st) M) : Ev l K G R n u w pc (o0 :: o1 :: o2 :: o3 :: o4 :: o5 :: o6 :: o7 :: o8 :: o9 :: o10 :: o11 :: o12 :: o13 :: o14 :: some (.int x) :: r) st M :=
  e_iload (i := 15) hd hp rfl kk
theorem e_istore_15 {o0 o1 o2 o3 o4 o5 o6 o7 o8 o9 o10 o11 o12 o13 o14 o15 : Option Value} {r : List (Option Value)} {x : Int32} (hd : decode K.2.1 pc = .ok (.istore 15, 2)) (hp : pc + 2 = pc') (hn : 15 < K.2.2.1) (hw : pmNW o14 = true) (kk : Ev l K G R n u w pc' (o0 :: o1 :: o2 :: o3 :: o4 :: o5 :: o6 :: o7 :: o8 :: o9 :: o10 :: o11 :: o12 :: o13 :: o14 :: some (.int x) :: r) st M) : Ev l K G R n u w pc (o0 :: o1 :: o2 :: o3 :: o4 :: o5 :: o6 :: o7 :: o8 :: o9 :: o10 :: o11 :: o12 :: o13 :: o14 :: o15 :: r) (.int x :: st) M :=
  e_istore (i := 15) hd hp hn (fun k o e h => by cases (show k = 14 by omega); cases h; exact hw) rfl kk
theorem e_iload_16 {o0 o1 o2 o3 o4 o5 o6 o7 o8 o9 o10 o11 o12 o13 o14 o15 : Option Value} {r : List (Option Value)} {x : Int32} (hd : decode K.2.1 pc = .ok (.iload 16, 2)) (hp : pc + 2 = pc') (kk : Ev l K G R n u w pc' (o0 :: o1 :: o2 :: o3 :: o4 :: o5 :: o6 :: o7 :: o8 :: o9 :: o10 :: o11 :: o12 :: o13 :: o14 :: o15 :: some (.int x) :: r) (.int x :: st) M) : Ev l K G R n u w pc (o0 :: o1 :: o2 :: o3 :: o4 :: o5 :: o6 :: o7 :: o8 :: o9 :: o10 :: o11 :: o12 :: o13 :: o14 :: o15 :: some (.int x) :: r) st M :=
  e_iload (i := 16) hd hp rfl kk
theorem e_istore_16 {o0 o1 o2 o3 o4 o5 o6 o7 o8 o9 o10 o11 o12 o13 o14 o15 o16 : Option Value} {r : List (Option Value)} {x : Int32} (hd : decode K.2.1 pc = .ok (.istore 16, 2)) (hp : pc + 2 = pc') (hn : 16 < K.2.2.1) (hw : pmNW o15 = true) (kk : Ev l K G R n u w pc' (o0 :: o1 :: o2 :: o3 :: o4 :: o5 :: o6 :: o7 :: o8 :: o9 :: o10 :: o11 :: o12 :: o13 :: o14 :: o15 :: some (.int x) :: r) st M) : Ev l K G R n u w pc (o0 :: o1 :: o2 :: o3 :: o4 :: o5 :: o6 :: o7 :: o8 :: o9 :: o10 :: o11 :: o12 :: o13 :: o14 :: o15 :: o16 :: r) (.int x :: st) M :=
  e_istore (i := 16) hd hp hn (fun k o e h => by cases (show k = 15 by omega); cases h; exact hw) rfl kk
theorem e_iload_17 {o0 o1 o2 o3 o4 o5 o6 o7 o8 o9 o10 o11 o12 o13 o14 o15 o16 : Option Value} {r : List (Option Value)} {x : Int32} (hd : decode K.2.1 pc = .ok (.iload 17, 2)) (hp : pc + 2 = pc') (kk : Ev l K G R n u w pc' (o0 :: o1 :: o2 :: o3 :: o4 :: o5 :: o6 :: o7 :: o8 :: o9 :: o10 :: o11 :: o12 :: o13 :: o14 :: o15 :: o16 :: some (.int x) :: r) (.int x :: st) M) : Ev l K G R n u w pc (o0 :: o1 :: o2 :: o3 :: o4 :: o5 :: o6 :: o7 :: o8 :: o9 :: o10 :: o11 :: o12 :: o13 :: o14 :: o15 :: o16 :: some (.int x) :: r) st M :=
  e_iload (i := 17) hd hp rfl kk
theorem e_istore_17 {o0 o1 o2 o3 o4 o5 o6 o7 o8 o9 o10 o11 o12 o13 o14 o15 o16 o17 : Option Value} {r : List (Option Value)} {x : Int32} (hd : decode K.2.1 pc = .ok (.istore 17, 2)) (hp : pc + 2 = pc') (hn : 17 < K.2.2.1) (hw : pmNW o16 = true) (kk : Ev l K G R n u w pc' (o0 :: o1 :: o2 :: o3 :: o4 :: o5 :: o6 :: o7 :: o8 :: o9 :: o10 :: o11 :: o12 :: o13 :: o14 :: o15 :: o16 :: some (.int x) :: r) st M) : Ev l K G R n u w pc (o0 :: o1 :: o2 :: o3 :: o4 :: o5 :: o6 :: o7 :: o8 :: o9 :: o10 :: o11 :: o12 :: o13 :: o14 :: o15 :: o16 :: o17 :: r) (.int x :: st) M :=
  e_istore (i := 17) hd hp hn (fun k o e h => by cases (show k = 16 by omega); cases h; exact hw) rfl kk
theorem e_lload_11 {o0 o1 o2 o3 o4 o5 o6 o7 o8 o9 o10 : Option Value} {r : List (Option Value)} {x : Int64} (hd : decode K.2.1 pc = .ok (.lload 11, 2)) (hp : pc + 2 = pc') (kk : Ev l K G R n u w pc' (o0 :: o1 :: o2 :: o3 :: o4 :: o5 :: o6 :: o7 :: o8 :: o9 :: o10 :: some (.long x) :: r) (.long x :: st) M) : Ev l K G R n u w pc (o0 :: o1 :: o2 :: o3 :: o4 :: o5 :: o6 :: o7 :: o8 :: o9 :: o10 :: some (.long x) :: r) st M := e_lload (i := 11) hd hp rfl kk
theorem e_lstore_11 {o0 o1 o2 o3 o4 o5 o6 o7 o8 o9 o10 o11 o12 : Option Value} {r : List (Option Value)} {x : Int64} (hd : decode K.2.1 pc = .ok (.lstore 11, 2)) (hp : pc + 2 = pc') (hn : 12 < K.2.2.1) (hw : pmNW o10 = true) (kk : Ev l K G R n u w pc' (o0 :: o1 :: o2 :: o3 :: o4 :: o5 :: o6 :: o7 :: o8 :: o9 :: o10 :: some (.long x) :: none :: r) st M) : Ev l K G R n u w pc (o0 :: o1 :: o2 :: o3 :: o4 :: o5 :: o6 :: o7 :: o8 :: o9 :: o10 :: o11 :: o12 :: r) (.long x :: st) M := e_lstore (i := 11) hd hp hn (fun k o e h => by cases (show k = 10 by omega); cases h; exact hw) rfl kk
end LAW
theorem kjL_113 : Cond.constantLong RL 113 (19 : Int64) ∈ gw := gw_of 654 (by decide +kernel) rfl
theorem kjL_115 : Cond.constantLong RL 115 (31 : Int64) ∈ gw := gw_of 655 (by decide +kernel) rfl
theorem mabsL_156 : pmAbs RL 156 := ⟨gw_of 685 (by decide +kernel) rfl, gw_of 686 (by decide +kernel) rfl, gw_of 44 (by decide +kernel) rfl, gw_of 687 (by decide +kernel) rfl⟩
theorem bc_m101 : (Int8.ofInt (-101)).toInt32 = (-101 : Int32) := by decide
theorem bc_m102 : (Int8.ofInt (-102)).toInt32 = (-102 : Int32) := by decide
theorem bc_m103 : (Int8.ofInt (-103)).toInt32 = (-103 : Int32) := by decide
theorem bc_m104 : (Int8.ofInt (-104)).toInt32 = (-104 : Int32) := by decide
theorem bc_m105 : (Int8.ofInt (-105)).toInt32 = (-105 : Int32) := by decide
theorem bd_6 : (Int8.ofInt 6).toInt32 = nI 6 := by decide
theorem bd_10 : (Int8.ofInt 10).toInt32 = nI 10 := by decide
theorem bd_11 : (Int8.ofInt 11).toInt32 = nI 11 := by decide
theorem bd_12 : (Int8.ofInt 12).toInt32 = nI 12 := by decide
theorem bd_13 : (Int8.ofInt 13).toInt32 = nI 13 := by decide
theorem bd_14 : (Int8.ofInt 14).toInt32 = nI 14 := by decide
theorem bd_15 : (Int8.ofInt 15).toInt32 = nI 15 := by decide
theorem bd_17 : (Int8.ofInt 17).toInt32 = nI 17 := by decide
theorem bd_18 : (Int8.ofInt 18).toInt32 = nI 18 := by decide
theorem bd_19 : (Int8.ofInt 19).toInt32 = nI 19 := by decide
theorem bd_20 : (Int8.ofInt 20).toInt32 = nI 20 := by decide
theorem bd_21 : (Int8.ofInt 21).toInt32 = nI 21 := by decide
theorem bd_22 : (Int8.ofInt 22).toInt32 = nI 22 := by decide
theorem bd_23 : (Int8.ofInt 23).toInt32 = nI 23 := by decide
theorem bd_24 : (Int8.ofInt 24).toInt32 = nI 24 := by decide
theorem bd_25 : (Int8.ofInt 25).toInt32 = nI 25 := by decide
theorem bd_26 : (Int8.ofInt 26).toInt32 = nI 26 := by decide
theorem bd_28 : (Int8.ofInt 28).toInt32 = nI 28 := by decide
theorem bd_36 : (Int8.ofInt 36).toInt32 = nI 36 := by decide
theorem bd_46 : (Int8.ofInt 46).toInt32 = nI 46 := by decide
theorem sc_389 : (Int16.ofInt 389).toInt32 = nI 389 := by decide
theorem lg_cmp_self (x : Int64) : lg_cmp x x = 0 := by unfold lg_cmp; simp
