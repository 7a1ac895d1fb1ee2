/-! ===== methods with handlers ===== -/
theorem sph_of {l : Launch} {K : pmKey} {n : Nat} {vs : List Value} {M M' : pmM} {d mc ms : Nat} {res : pmRes} (hf : l.stackTraces = false) (hy : plainName K.1.cls = true) (hn : vs.length ≤ K.2.2.1) (hv : ∀ v ∈ vs, v.category = 1) (body : Ev l K (gM n mc ms res M') (rmd d mc ms) n 0 0 0 (pmLo K.2.2.1 vs) [] M) : SpH l K n d mc ms vs M res M' := by
  intro D cy L A
  refine vx_ofWH (cc := K.2.1) (maxL := K.2.2.1) (ret := K.2.2.2.1) (hh := K.2.2.2.2) hy rfl ?_
  intro p e s m args below meth c s₁ B hml hvv
  obtain ⟨rfl, hK, hZ, hA, hi, hAi, hP⟩ := hvv
  have hts := atoms_spec (ws := wH K) B.pre
  obtain ⟨ls, h1, h2⟩ := pm_entry L vs hn hv m
  rw [h1]
  exact body p e s m _ below meth c D cy L A s.heap [] ls ⟨B.exec, B.bytes, hml, findClass_of_methodNamed B.named, fun w hw => hts w (List.mem_cons_of_mem _ hw), B.notSynchronized, B.returns, vx_table (x := K.1) B (hts _ List.mem_cons_self), (name_of_methodNamed B.named B.method).1, hf, hK, hZ, hA, hi, hAi⟩ h2 hP va_S.rf
