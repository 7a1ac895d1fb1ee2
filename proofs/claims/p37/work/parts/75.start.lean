/-! ===== whole_start ===== -/
theorem aw_arr {s : State} {args : Array Value} {ty : FieldType} (h : (Cond.arrayClass ty).before args s = true) : ∃ c : ClassId, ArrOfT s c ty ∧ s.vm.findClass ("[" ++ ty.toString) = some c := by
  obtain ⟨c, k, comp, h1, h2, h3⟩ := Cond.arrayClass_spec h
  exact ⟨c, fun n z => ⟨(fun q h => by cases h), k, h2, comp, h3⟩, h1⟩
theorem aw_obj {s : State} {C : String} (h : va_AO C s) : ∃ c : ClassId, ArrOfT s c (.object C) ∧ va_RA s c (.object C) := by
  obtain ⟨comp, c, k, h1, h2, h3, h4, h5⟩ := Cond.arrayOver_spec h
  exact ⟨c, fun n z => ⟨(fun q h => by cases h), k, h3, comp, h4⟩, k, comp, h3, h4, h1, h5⟩
theorem aw_two {s : State} (h : va_AOA .int s) : ∃ c : ClassId, ArrOfT s c (.array .int) ∧ va_RA s c (.array .int) := by
  obtain ⟨comp, c, k, h1, h2, h3, h4, h5⟩ := arrayOver_specB h
  exact ⟨c, fun n z => ⟨(fun q h => by cases h), k, h3, comp, h4⟩, h5⟩
theorem aw_str {s : State} {A : Array Value} {own tx : String} {k : Nat} (h : (Cond.stringRef own k tx).before A s = true) : ∃ a, vk_R own k tx a s := by
  have h1 : (Cond.stringRef own k tx).before #[] s = true := h
  cases hc : s.vm.findClass own with
  | none =>
    exfalso
    have h2 := h1
    simp [Cond.before, Cond.holds, Cond.value, State.resolvedAt?, hc] at h2
  | some cur =>
    obtain ⟨_, _, _, a, _, _, _, _, _, h3⟩ := Cond.stringRef_spec hc (h1 : (Cond.stringRef own k tx).holds #[] s none s [] = true)
    exact ⟨a, h1, h3⟩
theorem nw_all {s : State} {A : Array Value} (hts : ∀ w ∈ lw_tbl, w.before A s = true) : ∀ w ∈ nw, va_Nw w s := fun w hw => by
  have h1 := (List.mem_filter.mp hw).2
  have h2 := hts w (List.mem_filter.mp hw).1
  cases w <;> first | exact Bool.noConfusion (show false = true from h1) | exact va_Nw.of rfl h2
theorem sw_all {s : State} {A : Array Value} (hts : ∀ w ∈ lw_tbl, w.before A s = true) : ∀ (own : String) (k : Nat) (tx : String), Cond.stringRef own k tx ∈ sw → ∃ a, vk_R own k tx a s := fun own k tx hw => aw_str (hts _ (List.mem_filter.mp hw).1)
theorem nc_all {s : State} {A : Array Value} (hg : (Jvm.Cond.and given_1 narrow_1).before A s = true) : ∀ q ∈ ncw, va_Nc q.1 q.2 s := by
  have h := flat_of_before _ hg
  unfold ncw
  exact List.forall_mem_cons.mpr ⟨va_Nc.of (h (.not (.castable "java/lang/IllegalArgumentException" "java/lang/IndexOutOfBoundsException")) (by decide +kernel)), List.forall_mem_cons.mpr ⟨va_Nc.of (h (.not (.castable "java/lang/IllegalStateException" "java/lang/IndexOutOfBoundsException")) (by decide +kernel)), List.forall_mem_cons.mpr ⟨va_Nc.of (h (.not (.castable "java/lang/IllegalStateException" "java/lang/IllegalArgumentException")) (by decide +kernel)), List.forall_mem_cons.mpr ⟨va_Nc.of (h (.not (.castable "java/lang/UnsupportedOperationException" "java/lang/IndexOutOfBoundsException")) (by decide +kernel)), List.forall_mem_cons.mpr ⟨va_Nc.of (h (.not (.castable "java/lang/UnsupportedOperationException" "java/lang/IllegalArgumentException")) (by decide +kernel)), List.forall_mem_cons.mpr ⟨va_Nc.of (h (.not (.castable "java/lang/UnsupportedOperationException" "java/lang/IllegalStateException")) (by decide +kernel)), List.forall_mem_cons.mpr ⟨va_Nc.of (h (.not (.castable "java/util/NoSuchElementException" "java/lang/IndexOutOfBoundsException")) (by decide +kernel)), List.forall_mem_cons.mpr ⟨va_Nc.of (h (.not (.castable "java/util/NoSuchElementException" "java/lang/IllegalArgumentException")) (by decide +kernel)), List.forall_mem_cons.mpr ⟨va_Nc.of (h (.not (.castable "java/util/NoSuchElementException" "java/lang/IllegalStateException")) (by decide +kernel)), List.forall_mem_cons.mpr ⟨va_Nc.of (h (.not (.castable "java/util/NoSuchElementException" "java/lang/UnsupportedOperationException")) (by decide +kernel)), fun _ h => absurd h List.not_mem_nil⟩⟩⟩⟩⟩⟩⟩⟩⟩⟩
theorem pz_all {s : State} {A : Array Value} (hts : ∀ w ∈ lw_tbl, w.before A s = true) (hg : (Jvm.Cond.and given_1 narrow_1).before A s = true) : pmZ (fun q => s.heap.size ≤ q) s s.heap := by
  have h := flat_of_before _ hg
  exact ⟨vx_Zqof (hts _ (List.mem_of_getElem? (i := 268) (by decide +kernel))) (hts _ (List.mem_of_getElem? (i := 33) (by decide +kernel))) (h (.isRef (.static Bundle.tN "UNASSIGNED_STACK" Bundle.steD)) (by decide +kernel)) (fun a ha => Nat.not_le.mpr ha), vx_Zqof (hts _ (List.mem_of_getElem? (i := 270) (by decide +kernel))) (hts _ (List.mem_of_getElem? (i := 33) (by decide +kernel))) (h (.isRef (.static Bundle.tN "SUPPRESSED_SENTINEL" Bundle.listD)) (by decide +kernel)) (fun a ha => Nat.not_le.mpr ha)⟩
theorem ao_all {s : State} {A : Array Value} (hts : ∀ w ∈ lw_tbl, w.before A s = true) : aoK s := ⟨va_AO.of (hts _ (List.mem_of_getElem? (i := 56) (by decide +kernel))), va_AO.of (hts _ (List.mem_of_getElem? (i := 58) (by decide +kernel))), va_AO.of (hts _ (List.mem_of_getElem? (i := 60) (by decide +kernel))), (show (Cond.arrayOver (.array .int)).before A s = true from hts _ (List.mem_of_getElem? (i := 62) (by decide +kernel)))⟩
theorem ks_all {s : State} {A : Array Value} (hts : ∀ w ∈ lw_tbl, w.before A s = true) : ∃ (D : va_G) (cy : Nat → ClassId), va_K D pmCl (pmTys cy) s := by
  obtain ⟨d0, e0, k0⟩ := u_known (C := RX0) (T := TX0) (N := 3) (n := 3) hts (fun w hw => (List.mem_filter.mp ((pm_cls 0 _ _ _ rfl).1 w hw)).1) (hts _ (List.mem_of_getElem? (i := 127) (by decide +kernel)))
  obtain ⟨d1, e1, k1⟩ := u_known (C := RX1) (T := TX1) (N := 10) (n := 10) hts (fun w hw => (List.mem_filter.mp ((pm_cls 1 _ _ _ rfl).1 w hw)).1) (hts _ (List.mem_of_getElem? (i := 81) (by decide +kernel)))
  obtain ⟨d2, e2, k2⟩ := u_known (C := RX2) (T := TX2) (N := 3) (n := 3) hts (fun w hw => (List.mem_filter.mp ((pm_cls 2 _ _ _ rfl).1 w hw)).1) (hts _ (List.mem_of_getElem? (i := 63) (by decide +kernel)))
  obtain ⟨d3, e3, k3⟩ := u_known (C := RX3) (T := TX3) (N := 9) (n := 9) hts (fun w hw => (List.mem_filter.mp ((pm_cls 3 _ _ _ rfl).1 w hw)).1) (hts _ (List.mem_of_getElem? (i := 48) (by decide +kernel)))
  have hao := ao_all hts
  obtain ⟨c5, x5, y5⟩ := aw_arr (ty := .int) (hts _ (List.mem_of_getElem? (i := 80) (by decide +kernel)))
  obtain ⟨c9, x9, y9⟩ := aw_obj hao.1
  obtain ⟨c8, x8, y8⟩ := aw_obj hao.2.1
  obtain ⟨c7, x7, y7⟩ := aw_obj hao.2.2.1
  obtain ⟨c10, x10, y10⟩ := aw_two hao.2.2.2
  refine ⟨((fun c => [d0, d1, d2, d3, d3].getD c d0), fun c => [e0, e1, e2, e3, e3].getD c e0), fun k => [c5, c5, c7, c8, c9, c10, c5, c5].getD (k - 5) c5, fun c q hq => ?_, fun k q hq => ?_⟩
  · match c, hq with
    | 0, h => cases h; exact k0
    | 1, h => cases h; exact k1
    | 2, h => cases h; exact k2
    | 3, h => cases h; exact k3
    | 4, h => cases h; exact k3
    | z + 5, h => simp at h
  · match k, hq with
    | 0, h => cases h; exact ⟨x5, y5⟩
    | 1, h => cases h; exact ⟨x5, y5⟩
    | 2, h => cases h; exact ⟨x7, y7⟩
    | 3, h => cases h; exact ⟨x8, y8⟩
    | 4, h => cases h; exact ⟨x9, y9⟩
    | 5, h => cases h; exact ⟨x10, y10⟩
    | 6, h => cases h; exact ⟨x5, y5⟩
    | 7, h => cases h; exact ⟨x5, y5⟩
    | z + 8, h => simp [pmTys] at h
theorem tab_back (xs : List ExceptionTableEntry) : tableOf (xs.map fun x => (x.startPc, x.endPc, x.handlerPc, x.catchType)) = xs := by
  unfold tableOf
  rw [List.map_map]
  exact List.map_id' xs
theorem whole_start {p : Program} {e : Env} {s : State} {m : MethodId} {below : List Frame} {meth : Method} {c : Code} (l : Launch) (hflags : l.flags = flags0) {b L : Nat} {xs : Nat → Int32} (hL : L ≤ 260) (C0 : lw_At p s m meth c b L xs) : W p l e room_1 s m #[Value.ref b] below meth c s.heap [] 0 0 (lw_Z below #[Value.ref b] s) (entryFrame m ([Value.ref b] : List Value).toArray 18) := by
  obtain ⟨hx, hb, hr, hml, hown, hts, hX, hbl, hlk, hgv⟩ := C0
  have hf : l.stackTraces = false := by
    show (!l.flags.contains noTraceFlag) = false
    rw [hflags]; decide +kernel
  obtain ⟨D, cy, hK⟩ := ks_all hts
  obtain ⟨Lf, hLf⟩ : ∃ Lf : Nat → Nat, Lf = fun i => if i = 1000 then b else 0 := ⟨_, rfl⟩
  have hb1 : Lf 1000 = b := by rw [hLf]; exact if_pos rfl
  obtain ⟨ls, h1, h2⟩ := pm_entry Lf [.ref 1000] (nL := 18) (by decide) (by intro v hv; simp at hv; subst hv; rfl) m
  have h3 : ([.ref 1000] : List Value).map (pmV Lf) = [.ref b] := congrArg (fun z => [Value.ref z]) hb1
  rw [h3] at h1
  rw [h1]
  have k := law_begin (nm := meth.name) (hl := c.exceptionTable.toList.map fun x => (x.startPc, x.endPc, x.handlerPc, x.catchType)) (b := b) (Ln := L) (xs := xs) hf hL p e s m #[Value.ref b] below meth c D cy Lf (fun q => s.heap.size ≤ q) s.heap [] ls ⟨hx, hb, hml, hown, fun w hw => hts w (List.mem_filter.mp hw).1, hlk, hr, (tab_back _).symm, rfl, hf, ⟨hK, nw_all hts, sw_all hts, nc_all hgv⟩, pz_all hts hgv, fun q hq => hq, fun i j hi => absurd hi (Nat.not_lt_zero i), fun i hi => absurd hi (Nat.not_lt_zero i)⟩ h2 (fun k q hq => by
    have : (pmWl cy Lf (MR []) 0)[k]? = none := by simp [pmWl]
    rw [this] at hq
    cases hq) va_S.rf
  exact fun T hT XT => by
    obtain ⟨t, y, z⟩ := k T hT XT
    exact ⟨t, y, z ⟨hb1, hX, hbl, fun q hq => hq, rfl, ao_all hts⟩⟩
