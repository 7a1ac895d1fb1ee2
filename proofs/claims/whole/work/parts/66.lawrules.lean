/-! ===== the law's own rules ===== -/
/-- the law's method: its name and its table of handlers, whatever they are -/
abbrev kLaw (nm : String) (hl : List (Nat × Nat × Nat × Nat)) : pmKey := (⟨"FilterRulesLaw", nm, ""⟩, code, 9, ret, hl)
/-- the arrays of references that the tables say can be made -/
def aoK (U : State) : Prop := va_AO RX2 U ∧ va_AO RX1 U ∧ va_AO RX0 U ∧ va_AOA .int U
theorem aoK.moved {u U : State} (hvm : u.vm.Alike U.vm) (h : aoK u) : aoK U := ⟨h.1.moved hvm, h.2.1.moved hvm, h.2.2.1.moved hvm, arrayOver_alikeB hvm h.2.2.2⟩
/-- where the script lies, and that the law's run writes only what it made -/
def sC (b Ln : Nat) (xs : Nat → Int32) (args : Array Value) (s : State) (L : Nat → Nat) (A : Nat → Prop) : Prop := L 1000 = b ∧ va_X b Ln xs s s.heap ∧ b < s.heap.size ∧ (∀ q, A q → s.heap.size ≤ q) ∧ args = #[Value.ref b] ∧ aoK s
def gS (b Ln : Nat) (xs : Nat → Int32) : pmG := fun below args s _ _ L A t => sC b Ln xs args s L A → lw_Z below #[Value.ref b] s t
section LAW
variable {l : Launch} {K K2 : pmKey} {G : pmG} {R : Room} {n u w pc pc' u' w' d2 mc2 ms2 k idx : Nat} {lo : List (Option Value)} {st st0 vs : List Value} {M M' : pmM} {v : Option Value} {b Ln : Nat} {xs : Nat → Int32}
theorem e_wid (h1 : u ≤ u') (h2 : w ≤ w') (kk : Ev l K G R n u' w' pc lo st M) : Ev l K G R n u w pc lo st M :=
  fun p e s m args below meth c D cy L A H locs ls X hl hP hS => W.widen h1 h2 (kk p e s m args below meth c D cy L A H locs ls X hl hP hS)
theorem e_callW (hd : decode K.2.1 pc = .ok (.invokestatic idx, 3)) (hp : pc + 3 = pc') (hk : pmCw K.1.cls idx K2 k) (hS2 : SpH l K2 n d2 mc2 ms2 vs M (.inl v) M') (hn : vs.length = k) (hst : st0 = vs.reverse ++ st)
    (hR : 10 * d2 + 1 ≤ R.frames ∧ 8 + (K2.2.2.1 + 11) + 128 * d2 ≤ R.locals) (hc : u + mc2 ≤ R.cells ∧ w + ms2 ≤ R.slots) (hu : u + mc2 = u') (hw : w + ms2 = w') (hr : (st.map fun v => v.category).sum ≤ 8)
    (kk : Ev l K G R n u' w' pc' lo (v.toList ++ st) M') : Ev l K G R n u w pc lo st0 M := by
  subst hp; subst hst; subst hu; subst hw
  refine fun p e s m args below meth c D cy L A H locs ls X hl hP hS => ?_
  obtain ⟨k1, k2, k3, k4, k5⟩ := hk
  have hts := X.2.2.2.2.1
  rw [pm_stk]
  refine pm_run (vx_runSX (n := k) (hh := K2.2.2.2.2) (As := vs.map (pmV L)) (rest := st.map (pmV L)) ⟨X.1, X.2.1, X.2.2.1, X.2.2.2.1, hts⟩ (hS2 D cy L A) ⟨⟨rfl, rfl, hR.1, hR.2, pay_in hts (wH_good k4), List.mem_cons_self⟩, hts _ k4, hts _ k3, ⟨k5.1, k5.2.1⟩, fun sig h => ?_, hts _ k1, hts _ k2⟩ ⟨pm_blind, pm_pre X hP hS vs⟩ rfl (by rw [List.length_map]; exact hn) hl.1 rfl (lv_room (pm_rest L hr)) hd hc) hS (fun v' H1 locs1 hv hP1 hS1 => ?_) (fun E' H1 locs1 ce q9 hE _ _ _ _ _ => by cases hE)
  · have h2 := k5.2.2
    rw [h] at h2
    exact (Option.some.inj h2).symm
  · cases hv
    rw [pm_vst]
    exact kk p e s m args below meth c D cy L A H1 locs1 ls X hl hP1 hS1
theorem e_swT {dflt low high o : Int} {offs : Array Int} {len tgt : Nat} {x : Int32} (hd : decode K.2.1 pc = .ok (.tableswitch dflt low high offs, len)) (hin : ¬ (x.toInt < low ∨ x.toInt > high)) (ho : offs[(x.toInt - low).toNat]? = some o) (ht : (pc : Int) + o = (tgt : Int)) (kk : Ev l K G R n u w tgt lo st M) : Ev l K G R n u w pc lo (.int x :: st) M := by
  refine fun p e s m args below meth c D cy L A H locs ls X hl hP hS => ?_
  intro T hT XT
  obtain ⟨t, a, b⟩ := kk p e s m args below meth c D cy L A H locs ls X hl hP hS T hT XT
  refine ⟨t, ?_, b⟩
  have hexec := X.1
  have hb := X.2.1
  have e1 : pmV L (.int x) = .int x := rfl
  rw [List.map_cons, e1]
  jvm_step XT.here [XT.here.top, hexec, hb, hd, tableswitch.wp_whole, hin, ho, ht]
  exact a
theorem e_swD {dflt low high : Int} {offs : Array Int} {len tgt : Nat} {x : Int32} (hd : decode K.2.1 pc = .ok (.tableswitch dflt low high offs, len)) (hin : x.toInt < low ∨ x.toInt > high) (ht : (pc : Int) + dflt = (tgt : Int)) (kk : Ev l K G R n u w tgt lo st M) : Ev l K G R n u w pc lo (.int x :: st) M := by
  refine fun p e s m args below meth c D cy L A H locs ls X hl hP hS => ?_
  intro T hT XT
  obtain ⟨t, a, b⟩ := kk p e s m args below meth c D cy L A H locs ls X hl hP hS T hT XT
  refine ⟨t, ?_, b⟩
  have hexec := X.1
  have hb := X.2.1
  have e1 : pmV L (.int x) = .int x := rfl
  rw [List.map_cons, e1]
  jvm_step XT.here [XT.here.top, hexec, hb, hd, tableswitch.wp_whole, hin, ht]
  exact a
theorem e_slen (hd : decode K.2.1 pc = .ok (.arraylength, 1)) (hp : pc + 1 = pc') (kk : Ev l K (gS b Ln xs) R n u w pc' lo (.int (nI Ln) :: st) M) : Ev l K (gS b Ln xs) R n u w pc lo (.ref 1000 :: st) M := by
  subst hp
  refine fun p e s m args below meth c D cy L A H locs ls X hl hP hS => ?_
  by_cases hC : sC b Ln xs args s L A
  · obtain ⟨c1, c2, c3, c4, c5, c6⟩ := id hC
    have e1 : (Value.ref 1000 :: st).map (pmV L) = .ref b :: st.map (pmV L) := by rw [List.map_cons, ← c1]; rfl
    rw [e1]
    exact va_slen X.1 X.2.1 c2 c3 (fun h => absurd (c4 b h) (by omega)) hS hd (kk p e s m args below meth c D cy L A H locs ls X hl hP hS)
  · exact fun T hT XT => ⟨_, Steps.refl _, fun h => absurd h hC⟩
theorem e_sld {i : Int32} {j : Nat} (hd : decode K.2.1 pc = .ok (.iaload, 1)) (hp : pc + 1 = pc') (hi : i = nI j) (hj : j < Ln) (hLn : Ln ≤ 3584) (kk : Ev l K (gS b Ln xs) R n u w pc' lo (.int (xs j) :: st) M) : Ev l K (gS b Ln xs) R n u w pc lo (.int i :: .ref 1000 :: st) M := by
  subst hp
  subst hi
  refine fun p e s m args below meth c D cy L A H locs ls X hl hP hS => ?_
  by_cases hC : sC b Ln xs args s L A
  · obtain ⟨c1, c2, c3, c4, c5, c6⟩ := id hC
    have e1 : (Value.int (nI j) :: Value.ref 1000 :: st).map (pmV L) = .int (nI j) :: .ref b :: st.map (pmV L) := by rw [List.map_cons, List.map_cons, ← c1]; rfl
    rw [e1]
    refine va_sld X.1 X.2.1 c2 c3 (fun h => absurd (c4 b h) (by omega)) hS (vp_in_nI hj (by omega)) hd ?_
    rw [nI_clamp (show j < 2 ^ 31 by omega)]
    exact kk p e s m args below meth c D cy L A H locs ls X hl hP hS
  · exact fun T hT XT => ⟨_, Steps.refl _, fun h => absurd h hC⟩
theorem e_lret {nm : String} {hl : List (Nat × Nat × Nat × Nat)} (hd : decode code pc = .ok (.ireturn, 1)) (hu : u ≤ 628212) (hw : w ≤ 7131595) : Ev l (kLaw nm hl) (gS b Ln xs) room_1 n u w pc lo [.int (nI 1)] M := by
  refine fun p e s m args below meth c D cy L A H locs ls X hl hP hS => ?_
  by_cases hC : sC b Ln xs args s L A
  · obtain ⟨c1, c2, c3, c4, c5, c6⟩ := id hC
    subst c5
    have k : W p l e room_1 s m #[Value.ref b] below meth c H [] u w (lw_Z below #[Value.ref b] s) (F0 m pc ls [.int 1]) := W.widen hu hw (W.base (lw_ret (Drawn.sameBut.refl s.drawn lw_cs) X.1 X.2.1 X.2.2.2.2.2.2.1 X.2.2.2.2.2.1 hd))
    exact fun T hT XT => by
      obtain ⟨t, a, q⟩ := k T hT (Stand.forget (locs := []) XT (fun z hz => c4 _ (hS.2.2 z hz)))
      exact ⟨t, a, fun _ => q⟩
  · exact fun T hT XT => ⟨_, Steps.refl _, fun h => absurd h hC⟩
theorem e_fstore_7 {o0 o1 o2 o3 o4 o5 o6 o7 : Option Value} {r : List (Option Value)} {x : UInt32} (hd : decode K.2.1 pc = .ok (.fstore 7, 2)) (hp : pc + 2 = pc') (hn : 7 < K.2.2.1) (hw : pmNW o6 = true) (kk : Ev l K G R n u w pc' (o0 :: o1 :: o2 :: o3 :: o4 :: o5 :: o6 :: some (.float x) :: r) st M) : Ev l K G R n u w pc (o0 :: o1 :: o2 :: o3 :: o4 :: o5 :: o6 :: o7 :: r) (.float x :: st) M :=
  e_fstore (i := 7) hd hp hn (fun k o e h => by cases (show k = 6 by omega); cases h; exact hw) rfl kk
theorem e_fload_7 {o0 o1 o2 o3 o4 o5 o6 : Option Value} {r : List (Option Value)} {x : UInt32} (hd : decode K.2.1 pc = .ok (.fload 7, 2)) (hp : pc + 2 = pc') (kk : Ev l K G R n u w pc' (o0 :: o1 :: o2 :: o3 :: o4 :: o5 :: o6 :: some (.float x) :: r) (.float x :: st) M) : Ev l K G R n u w pc (o0 :: o1 :: o2 :: o3 :: o4 :: o5 :: o6 :: some (.float x) :: r) st M :=
  e_fload (i := 7) hd hp rfl kk
end LAW
theorem lg_cmp_self (x : Int64) : lg_cmp x x = 0 := by unfold lg_cmp; simp
theorem and63 (x : Int32) : ∃ k : Nat, k < 64 ∧ x &&& nI 63 = nI k := by
  refine ⟨tN (x &&& nI 63), ?_, (nI_tN _).symm⟩
  have h : (x &&& nI 63).toBitVec = x.toBitVec &&& 63#32 := by rw [Int32.toBitVec_and]; rfl
  show (x &&& nI 63).toBitVec.toNat < 64
  rw [h, BitVec.toNat_and]
  exact Nat.lt_of_le_of_lt Nat.and_le_right (by decide)
