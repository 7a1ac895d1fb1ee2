/-! ===== law's wrappers: what their calls throw is caught ===== -/
theorem sph_of {l : Launch} {K : pmKey} {n : Nat} {vs : List Value} {M M' : pmM} {d mc ms : Nat} {res : pmRes} (hf : l.stackTraces = false) (hy : plainName K.1.cls = true) (hn : vs.length ≤ K.2.2.1) (hv : ∀ v ∈ vs, v.category = 1) (body : Ev l K (gM n mc ms res M') (rmd d mc ms) n 0 0 0 (pmLo K.2.2.1 vs) [] M) : SpH l K n d mc ms vs M res M' := by
  intro D cy L A
  refine vx_ofWH (cc := K.2.1) (maxL := K.2.2.1) (ret := K.2.2.2.1) (hh := K.2.2.2.2) hy rfl ?_
  intro p e s m args below meth c s₁ B hml hvv
  obtain ⟨rfl, hK, hZ, hA, hi, hAi, hP⟩ := hvv
  have hts := atoms_spec (ws := wH K) B.pre
  obtain ⟨ls, h1, h2⟩ := pm_entry L vs hn hv m
  rw [h1]
  exact body p e s m _ below meth c D cy L A s.heap [] ls ⟨B.exec, B.bytes, hml, findClass_of_methodNamed B.named, fun w hw => hts w (List.mem_cons_of_mem _ hw), B.notSynchronized, B.returns, vx_table (x := K.1) B (hts _ List.mem_cons_self), (name_of_methodNamed B.named B.method).1, hf, hK, hZ, hA, hi, hAi⟩ h2 hP va_S.rf
/-- the row of the table that takes E thrown at pc, and what stands there: the reference is put away, a constant answered -/
def pmHd (K : pmKey) (pc hpc : Nat) (E : String) : Prop := ∃ (pre : List (Nat × Nat × Nat × Nat)) (x : Nat × Nat × Nat × Nat) (suf : List (Nat × Nat × Nat × Nat)), K.2.2.2.2 = pre ++ x :: suf ∧ (∀ z ∈ pre, z.2.2.2 ≠ 0 ∧ ∃ nm, Cond.classLink K.1.cls z.2.2.2 nm ∈ gw ∧ (E, nm) ∈ ncw) ∧ x.1 ≤ pc ∧ pc < x.2.1 ∧ x.2.2.1 = hpc ∧ x.2.2.2 ≠ 0 ∧ ∃ nm, Cond.classLink K.1.cls x.2.2.2 nm ∈ gw ∧ Cond.castable E nm ∈ nw
def pmAs (K : pmKey) (hpc hq : Nat) : Prop := (∃ (k : Fin 4), decode K.2.1 hpc = .ok (.astore_n k, 1) ∧ (k : Nat) < K.2.2.1 ∧ hq = hpc + 1) ∨ ∃ i : Nat, decode K.2.1 hpc = .ok (.astore i, 2) ∧ i < K.2.2.1 ∧ hq = hpc + 2
theorem e_catch {l : Launch} {K K2 : pmKey} {R : Room} {n u w pc d2 mc2 ms2 k idx : Nat} {lo : List (Option Value)} {st st0 vs : List Value} {M M' : pmM} {E : String} {a ci N mcR msR hpc hq : Nat} {z : Int} {cst : Int32}
    (hd : decode K.2.1 pc = .ok (.invokevirtual idx, 3)) (hk : pmCv K.1.cls idx K2 k ci) (hS2 : Sp l K2 n d2 mc2 ms2 (.ref a :: vs) M (.inr E) M') (hn : vs.length = k) (hst : st0 = vs.reverse ++ .ref a :: st) (hs : psh a = (ci, N)) (hci : ci < 5) (ha : a < n)
    (hR : 10 * d2 + 1 ≤ R.frames ∧ 8 + (K2.2.2.1 + 11) + 128 * d2 ≤ R.locals) (hc : u + mc2 ≤ R.cells ∧ w + ms2 ≤ R.slots) (hr : (st.map fun v => v.category).sum ≤ 8)
    (hh : pmHd K pc hpc E) (hA : pmAs K hpc hq) (hi : decode K.2.1 hq = .ok (.iconst z, 1)) (hz : Int32.ofInt z = cst) (hret : decode K.2.1 (hq + 1) = .ok (.ireturn, 1)) (hty : K.2.2.2.1 = some .int) (hm : u + mc2 ≤ mcR ∧ w + ms2 ≤ msR) :
    Ev l K (gM n mcR msR (.inl (some (.int cst))) M') R n u w pc lo st0 M := by
  subst hst
  refine fun p e s m args below meth c D cy L A H locs ls X hl hP hS => ?_
  obtain ⟨k1, k2, k3, k4, k5, k6, T, N2, k7⟩ := hk
  have hts := X.2.2.2.2.1
  rw [pm_stk]
  have he := pmWl_get (cy := cy) (L := L) (M := M) ha
  rw [pmE_obj hs hci] at he
  refine pm_run (vx_runV (As := vs.map (pmV L)) (rest := st.map (pmV L)) ⟨X.1, X.2.1, X.2.2.1, X.2.2.2.1, hts⟩ (hS2 D cy L A) ⟨callB_of k hts (wU_good k5) rfl rfl rfl (hts _ k4) (hts _ k1) k6 hR, hts _ k2, hts _ k3⟩ ⟨pm_blind, va_recv X.2.2.2.2.2.2.2.2.2.2.1.1 hP k7 he, pm_pre X hP hS (.ref a :: vs)⟩ rfl (by rw [List.length_map]; exact hn) hl.1 rfl (lv_room (pm_rest L hr)) hd hc) hS (fun v' H1 locs1 hv hP1 hS1 => by cases hv) (fun E' H1 locs1 ce q9 hE hP1 hS1 g1 g2 g3 => ?_)
  cases hE
  obtain ⟨pre, x, suf, t1, t2, t3, t4, t5, t6, nm, t7, t8⟩ := hh
  have hK := X.2.2.2.2.2.2.2.2.2.2.1
  have htab : c.exceptionTable.toList = tableOf pre ++ (⟨x.1, x.2.1, x.2.2.1, x.2.2.2⟩ : ExceptionTableEntry) :: tableOf suf := by
    rw [X.2.2.2.2.2.2.2.1, t1]; simp [tableOf]
  refine vx_catch X.2.2.2.1 (tableOf pre) ⟨x.1, x.2.1, x.2.2.1, x.2.2.2⟩ (tableOf suf) htab (fun z hz => ?_) (by simp [t3, t4]) t6 (hts _ t7) (nw_use t8 (hK.2.1 _ t8)) g1 g2 g3 ?_
  · obtain ⟨q, hq, rfl⟩ := List.mem_map.mp hz
    obtain ⟨h1, nm', h2, h3⟩ := t2 q hq
    exact Or.inr ⟨h1, nm', hts _ h2, hK.2.2.2 _ h3⟩
  · show W p l e R s m args below meth c H1 locs1 _ _ _ (F0 m x.2.2.1 ls [.ref q9])
    rw [t5]
    have fin : ∀ ls' : Array Slot, W p l e R s m args below meth c H1 locs1 (u + mc2) (w + ms2) (gM n mcR msR (.inl (some (.int cst))) M' below args s D cy L A) (F0 m hq ls' []) := fun ls' =>
      lv_iconst X.1 X.2.1 hi hz (W.widen hm.1 hm.2 (vx_ret (W.zret X.1 X.2.1 (X.2.2.2.2.2.2.1.trans hty) rfl (fun t ht hW => ⟨⟨_, rfl, rfl⟩, by rw [ht]; exact hP1, hS1.F ht⟩) hS1.2.2 hret X.2.2.2.2.2.1)))
    rcases hA with ⟨kf, a1, a2, rfl⟩ | ⟨i, a1, a2, rfl⟩
    · exact lv_astore_n X.1 X.2.1 a1 rfl hl a2 rfl (fun ls' _ => fin ls')
    · exact lv_astore X.1 X.2.1 a1 hl a2 rfl (fun ls' _ => fin ls')
