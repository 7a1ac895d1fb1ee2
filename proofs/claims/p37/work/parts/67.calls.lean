/-! ===== the law's calls: what is thrown becomes a number ===== -/
def clE : Nat → String := fun j => match j with
  | 0 => "java/lang/IndexOutOfBoundsException"
  | 1 => "java/lang/IllegalArgumentException"
  | 2 => "java/lang/IllegalStateException"
  | 3 => "java/lang/UnsupportedOperationException"
  | _ => "java/util/NoSuchElementException"
def clI : Nat → Nat := fun j => 99 + 2 * j
def clC : Nat → Int32 := fun j => match j with
  | 0 => -101
  | 1 => -102
  | 2 => -103
  | 3 => -104
  | _ => -105
theorem clL (j : Nat) (h : j < 5) : Cond.classLink RL (clI j) (clE j) ∈ gw := by
  match j, h with
  | 0, _ => exact gw_of 250 (by decide +kernel) rfl
  | 1, _ => exact gw_of 330 (by decide +kernel) rfl
  | 2, _ => exact gw_of 331 (by decide +kernel) rfl
  | 3, _ => exact gw_of 332 (by decide +kernel) rfl
  | 4, _ => exact gw_of 333 (by decide +kernel) rfl
  | z + 5, h => exact absurd h (by omega)
theorem clK (j : Nat) (h : j < 5) : Cond.castable (clE j) (clE j) ∈ nw := by
  match j, h with
  | 0, _ => exact nw_of 364 (by decide +kernel) rfl
  | 1, _ => exact nw_of 383 (by decide +kernel) rfl
  | 2, _ => exact nw_of 340 (by decide +kernel) rfl
  | 3, _ => exact nw_of 431 (by decide +kernel) rfl
  | 4, _ => exact nw_of 452 (by decide +kernel) rfl
  | z + 5, h => exact absurd h (by omega)
theorem clN (j i : Nat) (h : j < 5) (hi : i < j) : (clE j, clE i) ∈ ncw := (show ∀ j, j < 5 → ∀ i, i < j → (clE j, clE i) ∈ ncw by decide +kernel) j h i hi
/-- the table's row for the exception j thrown at pc: the first that covers it, but for those of other classes -/
def hdB (tab : List (Nat × Nat × Nat × Nat)) (pc hpc n j : Nat) : Bool := match tab[n]? with
  | some x => decide (x.1 ≤ pc) && (decide (pc < x.2.1) && (x.2.2.1 == hpc && (x.2.2.2 == clI j && (tab.take n).all (fun z => !(decide (z.1 ≤ pc) && decide (pc < z.2.1)) || (List.range j).any (fun i => z.2.2.2 == clI i)))))
  | none => false
theorem e_caught {l : Launch} {K K2 : pmKey} {R : Room} {n u w pc d2 mc2 ms2 k idx : Nat} {lo : List (Option Value)} {st st0 vs : List Value} {M M' : pmM} {a ci N mcR msR hpc i nr j : Nat} {z : Int} {cst : Int32} (hj : j < 5) (hcls : K.1.cls = RL)
    (hd : decode K.2.1 pc = .ok (.invokevirtual idx, 3)) (hk : pmCv K.1.cls idx K2 k ci) (hS2 : Sp l K2 n d2 mc2 ms2 (.ref a :: vs) M (.inr (clE j)) M') (hn : vs.length = k) (hst : st0 = vs.reverse ++ .ref a :: st) (hs : psh a = (ci, N)) (hci : ci < 5) (ha : a < n)
    (hR : 10 * d2 + 1 ≤ R.frames ∧ 8 + (K2.2.2.1 + 11) + 128 * d2 ≤ R.locals) (hc : u + mc2 ≤ R.cells ∧ w + ms2 ≤ R.slots) (hr : (st.map fun v => v.category).sum ≤ 8)
    (hh : hdB K.2.2.2.2 pc hpc nr j = true) (hA : decode K.2.1 hpc = .ok (.astore i, 2)) (hi9 : i < K.2.2.1) (hi : decode K.2.1 (hpc + 2) = .ok (.bipush z, 2)) (hz : (Int8.ofInt z).toInt32 = cst) (hret : decode K.2.1 (hpc + 2 + 2) = .ok (.ireturn, 1)) (hty : K.2.2.2.1 = some .int) (hm : u + mc2 ≤ mcR ∧ w + ms2 ≤ msR) :
    Ev l K (gM n mcR msR (.inl (some (.int cst))) M') R n u w pc lo st0 M := by
  subst hst
  refine fun p e s m args below meth c D cy L A H locs ls X hl hP hS => ?_
  obtain ⟨k1, k2, k3, k4, k5, k6, T, N2, k7⟩ := hk
  have hts := X.2.2.2.2.1
  rw [pm_stk]
  have he := pmWl_get (cy := cy) (L := L) (M := M) ha
  rw [pmE_obj hs hci] at he
  refine pm_run (vx_runV (As := vs.map (pmV L)) (rest := st.map (pmV L)) ⟨X.1, X.2.1, X.2.2.1, X.2.2.2.1, hts⟩ (hS2 D cy L A) ⟨callB_of k hts (wU_good k5) rfl rfl rfl (hts _ k4) (hts _ k1) k6 hR, hts _ k2, hts _ k3⟩ ⟨pm_blind, va_recv X.2.2.2.2.2.2.2.2.2.2.1.1 hP k7 he, pm_pre X hP hS (.ref a :: vs)⟩ rfl (by rw [List.length_map]; exact hn) hl.1 rfl (lv_room (pm_rest L hr)) hd hc) hS (fun v' H1 locs1 hv hP1 hS1 => by cases hv) (fun E' H1 locs1 ce q9 hE hP1 hS1 g1 g2 g3 => ?_)
  cases hE
  have hK := X.2.2.2.2.2.2.2.2.2.2.1
  unfold hdB at hh
  cases hx : K.2.2.2.2[nr]? with
  | none => rw [hx] at hh; cases hh
  | some x =>
    rw [hx] at hh
    simp only [Bool.and_eq_true, decide_eq_true_eq, beq_iff_eq] at hh
    obtain ⟨t1, t2, t3, t4, t5⟩ := hh
    have hsp : K.2.2.2.2 = K.2.2.2.2.take nr ++ x :: K.2.2.2.2.drop (nr + 1) := by
      obtain ⟨hlt, hget⟩ := List.getElem?_eq_some_iff.mp hx
      rw [← hget, List.getElem_cons_drop, List.take_append_drop]
    have htab : c.exceptionTable.toList = tableOf (K.2.2.2.2.take nr) ++ (⟨x.1, x.2.1, x.2.2.1, x.2.2.2⟩ : ExceptionTableEntry) :: tableOf (K.2.2.2.2.drop (nr + 1)) := by
      rw [X.2.2.2.2.2.2.2.1]
      conv => lhs; rw [hsp]
      simp [tableOf]
    refine vx_catch (own := K.1.cls) (name := clE j) X.2.2.2.1 (tableOf (K.2.2.2.2.take nr)) ⟨x.1, x.2.1, x.2.2.1, x.2.2.2⟩ (tableOf (K.2.2.2.2.drop (nr + 1))) htab (fun z hz => ?_) (by simp [covers, t1, t2]) (by show x.2.2.2 ≠ 0; rw [t4]; unfold clI; omega) (by show (Cond.classLink K.1.cls x.2.2.2 (clE j)).before args s = true; rw [t4, hcls]; exact hts _ (clL j hj)) (nw_use (clK j hj) (hK.2.1 _ (clK j hj))) g1 g2 g3 ?_
    · obtain ⟨q, hq, rfl⟩ := List.mem_map.mp hz
      have h5 := List.all_eq_true.mp t5 q hq
      rw [Bool.or_eq_true] at h5
      rcases h5 with h5 | h5
      · left
        rw [Bool.not_eq_true'] at h5
        show (decide (q.1 ≤ pc) && decide (pc < q.2.1)) = false
        exact h5
      · right
        obtain ⟨i', hi', he'⟩ := List.any_eq_true.mp h5
        have hi' := List.mem_range.mp hi'
        have he' : q.2.2.2 = clI i' := beq_iff_eq.mp he'
        refine ⟨by show q.2.2.2 ≠ 0; rw [he']; unfold clI; omega, clE i', ?_, hK.2.2.2 _ (clN j i' hj hi')⟩
        show (Cond.classLink K.1.cls q.2.2.2 (clE i')).before args s = true
        rw [he', hcls]
        exact hts _ (clL i' (by omega))
    · show W p l e R s m args below meth c H1 locs1 _ _ _ (F0 m x.2.2.1 ls [.ref q9])
      rw [t3]
      refine lv_astore X.1 X.2.1 hA hl hi9 rfl (fun ls' _ => ?_)
      refine lv_bipush X.1 X.2.1 hi hz ?_
      exact W.widen hm.1 hm.2 (vx_ret (W.zret X.1 X.2.1 (X.2.2.2.2.2.2.1.trans hty) rfl (fun t ht hW => ⟨⟨_, rfl, rfl⟩, by rw [ht]; exact hP1, hS1.F ht⟩) hS1.2.2 hret X.2.2.2.2.2.1))
/-- what a call answers, as a number -/
def clR (v : Int32) (res : pmRes) : Prop := res = .inl (some (.int v)) ∨ ∃ j, j < 5 ∧ res = .inr (clE j) ∧ v = clC j
theorem clR.ok (v : Int32) : clR v (.inl (some (.int v))) := Or.inl rfl
theorem clR.x0 : clR (-101) (.inr "java/lang/IndexOutOfBoundsException") := Or.inr ⟨0, by decide, rfl, rfl⟩
theorem clR.x1 : clR (-102) (.inr "java/lang/IllegalArgumentException") := Or.inr ⟨1, by decide, rfl, rfl⟩
theorem clR.x2 : clR (-103) (.inr "java/lang/IllegalStateException") := Or.inr ⟨2, by decide, rfl, rfl⟩
theorem clR.x3 : clR (-104) (.inr "java/lang/UnsupportedOperationException") := Or.inr ⟨3, by decide, rfl, rfl⟩
theorem clR.x4 : clR (-105) (.inr "java/util/NoSuchElementException") := Or.inr ⟨4, by decide, rfl, rfl⟩
theorem cl_addObject {l : Launch} (hf : l.stackTraces = false) {M M' : pmM} {d mc ms : Nat} {a b c v : Int32} {res : pmRes} (hS : Sp l kX3_addObject 64 d mc ms [.ref 0] M res M') (hr : clR v res) : SpH l kL_call 64 (d + 1) mc ms [.ref 0, .int (nI 0), .int a, .int b, .int c] M (.inl (some (.int v))) M' := by
  refine sph_of hf (by decide +kernel) (Nat.le_of_ble_eq_true rfl) (by intro v hv; simp at hv; rcases hv with rfl | rfl | rfl | rfl | rfl <;> rfl) ?_
  refine e_iload_1 dL_call_0 rfl ?_
  refine e_swT dL_call_1 (o := 119) (by decide +kernel) (by decide +kernel) (show ((1 : Nat) : Int) + 119 = ((120 : Nat) : Int) by decide) ?_
  refine e_aload_0 dL_call_120 rfl ?_
  rcases hr with rfl | ⟨j, hj, rfl, rfl⟩
  · refine e_callV dL_call_121 rfl csL_9 hS rfl rfl ps_0 (by decide) (by decide) ⟨by show 10 * d + 1 ≤ 10 * (d + 1); omega, by show 8 + (1 + 11) + 128 * d ≤ 128 * (d + 1); omega⟩ ⟨by show 0 + mc ≤ mc; omega, by show 0 + ms ≤ ms; omega⟩ rfl rfl (Nat.le_of_ble_eq_true rfl) ?_
    exact e_iret dL_call_124 rfl rfl (by show 0 + mc ≤ mc; omega) (by show 0 + ms ≤ ms; omega) rfl rfl
  · match j, hj with
    | 0, hj => exact e_caught (j := 0) (nr := 0) (hpc := 324) hj rfl dL_call_121 csL_9 hS rfl rfl ps_0 (by decide) (by decide) ⟨by show 10 * d + 1 ≤ 10 * (d + 1); omega, by show 8 + (1 + 11) + 128 * d ≤ 128 * (d + 1); omega⟩ ⟨by show 0 + mc ≤ mc; omega, by show 0 + ms ≤ ms; omega⟩ (Nat.le_of_ble_eq_true rfl) (by decide +kernel) dL_call_324 (by decide) dL_call_326 bc_m101 dL_call_328 rfl ⟨by show 0 + mc ≤ mc; omega, by show 0 + ms ≤ ms; omega⟩
    | 1, hj => exact e_caught (j := 1) (nr := 27) (hpc := 329) hj rfl dL_call_121 csL_9 hS rfl rfl ps_0 (by decide) (by decide) ⟨by show 10 * d + 1 ≤ 10 * (d + 1); omega, by show 8 + (1 + 11) + 128 * d ≤ 128 * (d + 1); omega⟩ ⟨by show 0 + mc ≤ mc; omega, by show 0 + ms ≤ ms; omega⟩ (Nat.le_of_ble_eq_true rfl) (by decide +kernel) dL_call_329 (by decide) dL_call_331 bc_m102 dL_call_333 rfl ⟨by show 0 + mc ≤ mc; omega, by show 0 + ms ≤ ms; omega⟩
    | 2, hj => exact e_caught (j := 2) (nr := 54) (hpc := 334) hj rfl dL_call_121 csL_9 hS rfl rfl ps_0 (by decide) (by decide) ⟨by show 10 * d + 1 ≤ 10 * (d + 1); omega, by show 8 + (1 + 11) + 128 * d ≤ 128 * (d + 1); omega⟩ ⟨by show 0 + mc ≤ mc; omega, by show 0 + ms ≤ ms; omega⟩ (Nat.le_of_ble_eq_true rfl) (by decide +kernel) dL_call_334 (by decide) dL_call_336 bc_m103 dL_call_338 rfl ⟨by show 0 + mc ≤ mc; omega, by show 0 + ms ≤ ms; omega⟩
    | 3, hj => exact e_caught (j := 3) (nr := 81) (hpc := 339) hj rfl dL_call_121 csL_9 hS rfl rfl ps_0 (by decide) (by decide) ⟨by show 10 * d + 1 ≤ 10 * (d + 1); omega, by show 8 + (1 + 11) + 128 * d ≤ 128 * (d + 1); omega⟩ ⟨by show 0 + mc ≤ mc; omega, by show 0 + ms ≤ ms; omega⟩ (Nat.le_of_ble_eq_true rfl) (by decide +kernel) dL_call_339 (by decide) dL_call_341 bc_m104 dL_call_343 rfl ⟨by show 0 + mc ≤ mc; omega, by show 0 + ms ≤ ms; omega⟩
    | 4, hj => exact e_caught (j := 4) (nr := 108) (hpc := 344) hj rfl dL_call_121 csL_9 hS rfl rfl ps_0 (by decide) (by decide) ⟨by show 10 * d + 1 ≤ 10 * (d + 1); omega, by show 8 + (1 + 11) + 128 * d ≤ 128 * (d + 1); omega⟩ ⟨by show 0 + mc ≤ mc; omega, by show 0 + ms ≤ ms; omega⟩ (Nat.le_of_ble_eq_true rfl) (by decide +kernel) dL_call_344 (by decide) dL_call_346 bc_m105 dL_call_348 rfl ⟨by show 0 + mc ≤ mc; omega, by show 0 + ms ≤ ms; omega⟩
    | z + 5, h => exact absurd h (by omega)
theorem cl_addRange {l : Launch} (hf : l.stackTraces = false) {M M' : pmM} {d mc ms : Nat} {a b c v : Int32} {res : pmRes} (hS : Sp l kX3_addRange 64 d mc ms [.ref 0, .int a, .int b, .int c] M res M') (hr : clR v res) : SpH l kL_call 64 (d + 1) mc ms [.ref 0, .int (nI 1), .int a, .int b, .int c] M (.inl (some (.int v))) M' := by
  refine sph_of hf (by decide +kernel) (Nat.le_of_ble_eq_true rfl) (by intro v hv; simp at hv; rcases hv with rfl | rfl | rfl | rfl | rfl <;> rfl) ?_
  refine e_iload_1 dL_call_0 rfl ?_
  refine e_swT dL_call_1 (o := 124) (by decide +kernel) (by decide +kernel) (show ((1 : Nat) : Int) + 124 = ((125 : Nat) : Int) by decide) ?_
  refine e_aload_0 dL_call_125 rfl ?_
  refine e_iload_2 dL_call_126 rfl ?_
  refine e_iload_3 dL_call_127 rfl ?_
  refine e_iload_4 dL_call_128 rfl ?_
  rcases hr with rfl | ⟨j, hj, rfl, rfl⟩
  · refine e_callV dL_call_130 rfl csL_15 hS rfl rfl ps_0 (by decide) (by decide) ⟨by show 10 * d + 1 ≤ 10 * (d + 1); omega, by show 8 + (5 + 11) + 128 * d ≤ 128 * (d + 1); omega⟩ ⟨by show 0 + mc ≤ mc; omega, by show 0 + ms ≤ ms; omega⟩ rfl rfl (Nat.le_of_ble_eq_true rfl) ?_
    exact e_iret dL_call_133 rfl rfl (by show 0 + mc ≤ mc; omega) (by show 0 + ms ≤ ms; omega) rfl rfl
  · match j, hj with
    | 0, hj => exact e_caught (j := 0) (nr := 1) (hpc := 324) hj rfl dL_call_130 csL_15 hS rfl rfl ps_0 (by decide) (by decide) ⟨by show 10 * d + 1 ≤ 10 * (d + 1); omega, by show 8 + (5 + 11) + 128 * d ≤ 128 * (d + 1); omega⟩ ⟨by show 0 + mc ≤ mc; omega, by show 0 + ms ≤ ms; omega⟩ (Nat.le_of_ble_eq_true rfl) (by decide +kernel) dL_call_324 (by decide) dL_call_326 bc_m101 dL_call_328 rfl ⟨by show 0 + mc ≤ mc; omega, by show 0 + ms ≤ ms; omega⟩
    | 1, hj => exact e_caught (j := 1) (nr := 28) (hpc := 329) hj rfl dL_call_130 csL_15 hS rfl rfl ps_0 (by decide) (by decide) ⟨by show 10 * d + 1 ≤ 10 * (d + 1); omega, by show 8 + (5 + 11) + 128 * d ≤ 128 * (d + 1); omega⟩ ⟨by show 0 + mc ≤ mc; omega, by show 0 + ms ≤ ms; omega⟩ (Nat.le_of_ble_eq_true rfl) (by decide +kernel) dL_call_329 (by decide) dL_call_331 bc_m102 dL_call_333 rfl ⟨by show 0 + mc ≤ mc; omega, by show 0 + ms ≤ ms; omega⟩
    | 2, hj => exact e_caught (j := 2) (nr := 55) (hpc := 334) hj rfl dL_call_130 csL_15 hS rfl rfl ps_0 (by decide) (by decide) ⟨by show 10 * d + 1 ≤ 10 * (d + 1); omega, by show 8 + (5 + 11) + 128 * d ≤ 128 * (d + 1); omega⟩ ⟨by show 0 + mc ≤ mc; omega, by show 0 + ms ≤ ms; omega⟩ (Nat.le_of_ble_eq_true rfl) (by decide +kernel) dL_call_334 (by decide) dL_call_336 bc_m103 dL_call_338 rfl ⟨by show 0 + mc ≤ mc; omega, by show 0 + ms ≤ ms; omega⟩
    | 3, hj => exact e_caught (j := 3) (nr := 82) (hpc := 339) hj rfl dL_call_130 csL_15 hS rfl rfl ps_0 (by decide) (by decide) ⟨by show 10 * d + 1 ≤ 10 * (d + 1); omega, by show 8 + (5 + 11) + 128 * d ≤ 128 * (d + 1); omega⟩ ⟨by show 0 + mc ≤ mc; omega, by show 0 + ms ≤ ms; omega⟩ (Nat.le_of_ble_eq_true rfl) (by decide +kernel) dL_call_339 (by decide) dL_call_341 bc_m104 dL_call_343 rfl ⟨by show 0 + mc ≤ mc; omega, by show 0 + ms ≤ ms; omega⟩
    | 4, hj => exact e_caught (j := 4) (nr := 109) (hpc := 344) hj rfl dL_call_130 csL_15 hS rfl rfl ps_0 (by decide) (by decide) ⟨by show 10 * d + 1 ≤ 10 * (d + 1); omega, by show 8 + (5 + 11) + 128 * d ≤ 128 * (d + 1); omega⟩ ⟨by show 0 + mc ≤ mc; omega, by show 0 + ms ≤ ms; omega⟩ (Nat.le_of_ble_eq_true rfl) (by decide +kernel) dL_call_344 (by decide) dL_call_346 bc_m105 dL_call_348 rfl ⟨by show 0 + mc ≤ mc; omega, by show 0 + ms ≤ ms; omega⟩
    | z + 5, h => exact absurd h (by omega)
theorem cl_removeRange {l : Launch} (hf : l.stackTraces = false) {M M' : pmM} {d mc ms : Nat} {a b c v : Int32} {res : pmRes} (hS : Sp l kX3_removeRange 64 d mc ms [.ref 0, .int a] M res M') (hr : clR v res) : SpH l kL_call 64 (d + 1) mc ms [.ref 0, .int (nI 2), .int a, .int b, .int c] M (.inl (some (.int v))) M' := by
  refine sph_of hf (by decide +kernel) (Nat.le_of_ble_eq_true rfl) (by intro v hv; simp at hv; rcases hv with rfl | rfl | rfl | rfl | rfl <;> rfl) ?_
  refine e_iload_1 dL_call_0 rfl ?_
  refine e_swT dL_call_1 (o := 133) (by decide +kernel) (by decide +kernel) (show ((1 : Nat) : Int) + 133 = ((134 : Nat) : Int) by decide) ?_
  refine e_aload_0 dL_call_134 rfl ?_
  refine e_iload_2 dL_call_135 rfl ?_
  rcases hr with rfl | ⟨j, hj, rfl, rfl⟩
  · refine e_callV dL_call_136 rfl csL_19 hS rfl rfl ps_0 (by decide) (by decide) ⟨by show 10 * d + 1 ≤ 10 * (d + 1); omega, by show 8 + (3 + 11) + 128 * d ≤ 128 * (d + 1); omega⟩ ⟨by show 0 + mc ≤ mc; omega, by show 0 + ms ≤ ms; omega⟩ rfl rfl (Nat.le_of_ble_eq_true rfl) ?_
    exact e_iret dL_call_139 rfl rfl (by show 0 + mc ≤ mc; omega) (by show 0 + ms ≤ ms; omega) rfl rfl
  · match j, hj with
    | 0, hj => exact e_caught (j := 0) (nr := 2) (hpc := 324) hj rfl dL_call_136 csL_19 hS rfl rfl ps_0 (by decide) (by decide) ⟨by show 10 * d + 1 ≤ 10 * (d + 1); omega, by show 8 + (3 + 11) + 128 * d ≤ 128 * (d + 1); omega⟩ ⟨by show 0 + mc ≤ mc; omega, by show 0 + ms ≤ ms; omega⟩ (Nat.le_of_ble_eq_true rfl) (by decide +kernel) dL_call_324 (by decide) dL_call_326 bc_m101 dL_call_328 rfl ⟨by show 0 + mc ≤ mc; omega, by show 0 + ms ≤ ms; omega⟩
    | 1, hj => exact e_caught (j := 1) (nr := 29) (hpc := 329) hj rfl dL_call_136 csL_19 hS rfl rfl ps_0 (by decide) (by decide) ⟨by show 10 * d + 1 ≤ 10 * (d + 1); omega, by show 8 + (3 + 11) + 128 * d ≤ 128 * (d + 1); omega⟩ ⟨by show 0 + mc ≤ mc; omega, by show 0 + ms ≤ ms; omega⟩ (Nat.le_of_ble_eq_true rfl) (by decide +kernel) dL_call_329 (by decide) dL_call_331 bc_m102 dL_call_333 rfl ⟨by show 0 + mc ≤ mc; omega, by show 0 + ms ≤ ms; omega⟩
    | 2, hj => exact e_caught (j := 2) (nr := 56) (hpc := 334) hj rfl dL_call_136 csL_19 hS rfl rfl ps_0 (by decide) (by decide) ⟨by show 10 * d + 1 ≤ 10 * (d + 1); omega, by show 8 + (3 + 11) + 128 * d ≤ 128 * (d + 1); omega⟩ ⟨by show 0 + mc ≤ mc; omega, by show 0 + ms ≤ ms; omega⟩ (Nat.le_of_ble_eq_true rfl) (by decide +kernel) dL_call_334 (by decide) dL_call_336 bc_m103 dL_call_338 rfl ⟨by show 0 + mc ≤ mc; omega, by show 0 + ms ≤ ms; omega⟩
    | 3, hj => exact e_caught (j := 3) (nr := 83) (hpc := 339) hj rfl dL_call_136 csL_19 hS rfl rfl ps_0 (by decide) (by decide) ⟨by show 10 * d + 1 ≤ 10 * (d + 1); omega, by show 8 + (3 + 11) + 128 * d ≤ 128 * (d + 1); omega⟩ ⟨by show 0 + mc ≤ mc; omega, by show 0 + ms ≤ ms; omega⟩ (Nat.le_of_ble_eq_true rfl) (by decide +kernel) dL_call_339 (by decide) dL_call_341 bc_m104 dL_call_343 rfl ⟨by show 0 + mc ≤ mc; omega, by show 0 + ms ≤ ms; omega⟩
    | 4, hj => exact e_caught (j := 4) (nr := 110) (hpc := 344) hj rfl dL_call_136 csL_19 hS rfl rfl ps_0 (by decide) (by decide) ⟨by show 10 * d + 1 ≤ 10 * (d + 1); omega, by show 8 + (3 + 11) + 128 * d ≤ 128 * (d + 1); omega⟩ ⟨by show 0 + mc ≤ mc; omega, by show 0 + ms ≤ ms; omega⟩ (Nat.le_of_ble_eq_true rfl) (by decide +kernel) dL_call_344 (by decide) dL_call_346 bc_m105 dL_call_348 rfl ⟨by show 0 + mc ≤ mc; omega, by show 0 + ms ≤ ms; omega⟩
    | z + 5, h => exact absurd h (by omega)
theorem cl_addMember {l : Launch} (hf : l.stackTraces = false) {M M' : pmM} {d mc ms : Nat} {a b c v : Int32} {res : pmRes} (hS : Sp l kX3_addMember 64 d mc ms [.ref 0, .int a, .int b] M res M') (hr : clR v res) : SpH l kL_call 64 (d + 1) mc ms [.ref 0, .int (nI 3), .int a, .int b, .int c] M (.inl (some (.int v))) M' := by
  refine sph_of hf (by decide +kernel) (Nat.le_of_ble_eq_true rfl) (by intro v hv; simp at hv; rcases hv with rfl | rfl | rfl | rfl | rfl <;> rfl) ?_
  refine e_iload_1 dL_call_0 rfl ?_
  refine e_swT dL_call_1 (o := 139) (by decide +kernel) (by decide +kernel) (show ((1 : Nat) : Int) + 139 = ((140 : Nat) : Int) by decide) ?_
  refine e_aload_0 dL_call_140 rfl ?_
  refine e_iload_2 dL_call_141 rfl ?_
  refine e_iload_3 dL_call_142 rfl ?_
  rcases hr with rfl | ⟨j, hj, rfl, rfl⟩
  · refine e_callV dL_call_143 rfl csL_23 hS rfl rfl ps_0 (by decide) (by decide) ⟨by show 10 * d + 1 ≤ 10 * (d + 1); omega, by show 8 + (4 + 11) + 128 * d ≤ 128 * (d + 1); omega⟩ ⟨by show 0 + mc ≤ mc; omega, by show 0 + ms ≤ ms; omega⟩ rfl rfl (Nat.le_of_ble_eq_true rfl) ?_
    exact e_iret dL_call_146 rfl rfl (by show 0 + mc ≤ mc; omega) (by show 0 + ms ≤ ms; omega) rfl rfl
  · match j, hj with
    | 0, hj => exact e_caught (j := 0) (nr := 3) (hpc := 324) hj rfl dL_call_143 csL_23 hS rfl rfl ps_0 (by decide) (by decide) ⟨by show 10 * d + 1 ≤ 10 * (d + 1); omega, by show 8 + (4 + 11) + 128 * d ≤ 128 * (d + 1); omega⟩ ⟨by show 0 + mc ≤ mc; omega, by show 0 + ms ≤ ms; omega⟩ (Nat.le_of_ble_eq_true rfl) (by decide +kernel) dL_call_324 (by decide) dL_call_326 bc_m101 dL_call_328 rfl ⟨by show 0 + mc ≤ mc; omega, by show 0 + ms ≤ ms; omega⟩
    | 1, hj => exact e_caught (j := 1) (nr := 30) (hpc := 329) hj rfl dL_call_143 csL_23 hS rfl rfl ps_0 (by decide) (by decide) ⟨by show 10 * d + 1 ≤ 10 * (d + 1); omega, by show 8 + (4 + 11) + 128 * d ≤ 128 * (d + 1); omega⟩ ⟨by show 0 + mc ≤ mc; omega, by show 0 + ms ≤ ms; omega⟩ (Nat.le_of_ble_eq_true rfl) (by decide +kernel) dL_call_329 (by decide) dL_call_331 bc_m102 dL_call_333 rfl ⟨by show 0 + mc ≤ mc; omega, by show 0 + ms ≤ ms; omega⟩
    | 2, hj => exact e_caught (j := 2) (nr := 57) (hpc := 334) hj rfl dL_call_143 csL_23 hS rfl rfl ps_0 (by decide) (by decide) ⟨by show 10 * d + 1 ≤ 10 * (d + 1); omega, by show 8 + (4 + 11) + 128 * d ≤ 128 * (d + 1); omega⟩ ⟨by show 0 + mc ≤ mc; omega, by show 0 + ms ≤ ms; omega⟩ (Nat.le_of_ble_eq_true rfl) (by decide +kernel) dL_call_334 (by decide) dL_call_336 bc_m103 dL_call_338 rfl ⟨by show 0 + mc ≤ mc; omega, by show 0 + ms ≤ ms; omega⟩
    | 3, hj => exact e_caught (j := 3) (nr := 84) (hpc := 339) hj rfl dL_call_143 csL_23 hS rfl rfl ps_0 (by decide) (by decide) ⟨by show 10 * d + 1 ≤ 10 * (d + 1); omega, by show 8 + (4 + 11) + 128 * d ≤ 128 * (d + 1); omega⟩ ⟨by show 0 + mc ≤ mc; omega, by show 0 + ms ≤ ms; omega⟩ (Nat.le_of_ble_eq_true rfl) (by decide +kernel) dL_call_339 (by decide) dL_call_341 bc_m104 dL_call_343 rfl ⟨by show 0 + mc ≤ mc; omega, by show 0 + ms ≤ ms; omega⟩
    | 4, hj => exact e_caught (j := 4) (nr := 111) (hpc := 344) hj rfl dL_call_143 csL_23 hS rfl rfl ps_0 (by decide) (by decide) ⟨by show 10 * d + 1 ≤ 10 * (d + 1); omega, by show 8 + (4 + 11) + 128 * d ≤ 128 * (d + 1); omega⟩ ⟨by show 0 + mc ≤ mc; omega, by show 0 + ms ≤ ms; omega⟩ (Nat.le_of_ble_eq_true rfl) (by decide +kernel) dL_call_344 (by decide) dL_call_346 bc_m105 dL_call_348 rfl ⟨by show 0 + mc ≤ mc; omega, by show 0 + ms ≤ ms; omega⟩
    | z + 5, h => exact absurd h (by omega)
theorem cl_removeMember {l : Launch} (hf : l.stackTraces = false) {M M' : pmM} {d mc ms : Nat} {a b c v : Int32} {res : pmRes} (hS : Sp l kX3_removeMember 64 d mc ms [.ref 0, .int a, .int b] M res M') (hr : clR v res) : SpH l kL_call 64 (d + 1) mc ms [.ref 0, .int (nI 4), .int a, .int b, .int c] M (.inl (some (.int v))) M' := by
  refine sph_of hf (by decide +kernel) (Nat.le_of_ble_eq_true rfl) (by intro v hv; simp at hv; rcases hv with rfl | rfl | rfl | rfl | rfl <;> rfl) ?_
  refine e_iload_1 dL_call_0 rfl ?_
  refine e_swT dL_call_1 (o := 146) (by decide +kernel) (by decide +kernel) (show ((1 : Nat) : Int) + 146 = ((147 : Nat) : Int) by decide) ?_
  refine e_aload_0 dL_call_147 rfl ?_
  refine e_iload_2 dL_call_148 rfl ?_
  refine e_iload_3 dL_call_149 rfl ?_
  rcases hr with rfl | ⟨j, hj, rfl, rfl⟩
  · refine e_callV dL_call_150 rfl csL_27 hS rfl rfl ps_0 (by decide) (by decide) ⟨by show 10 * d + 1 ≤ 10 * (d + 1); omega, by show 8 + (4 + 11) + 128 * d ≤ 128 * (d + 1); omega⟩ ⟨by show 0 + mc ≤ mc; omega, by show 0 + ms ≤ ms; omega⟩ rfl rfl (Nat.le_of_ble_eq_true rfl) ?_
    exact e_iret dL_call_153 rfl rfl (by show 0 + mc ≤ mc; omega) (by show 0 + ms ≤ ms; omega) rfl rfl
  · match j, hj with
    | 0, hj => exact e_caught (j := 0) (nr := 4) (hpc := 324) hj rfl dL_call_150 csL_27 hS rfl rfl ps_0 (by decide) (by decide) ⟨by show 10 * d + 1 ≤ 10 * (d + 1); omega, by show 8 + (4 + 11) + 128 * d ≤ 128 * (d + 1); omega⟩ ⟨by show 0 + mc ≤ mc; omega, by show 0 + ms ≤ ms; omega⟩ (Nat.le_of_ble_eq_true rfl) (by decide +kernel) dL_call_324 (by decide) dL_call_326 bc_m101 dL_call_328 rfl ⟨by show 0 + mc ≤ mc; omega, by show 0 + ms ≤ ms; omega⟩
    | 1, hj => exact e_caught (j := 1) (nr := 31) (hpc := 329) hj rfl dL_call_150 csL_27 hS rfl rfl ps_0 (by decide) (by decide) ⟨by show 10 * d + 1 ≤ 10 * (d + 1); omega, by show 8 + (4 + 11) + 128 * d ≤ 128 * (d + 1); omega⟩ ⟨by show 0 + mc ≤ mc; omega, by show 0 + ms ≤ ms; omega⟩ (Nat.le_of_ble_eq_true rfl) (by decide +kernel) dL_call_329 (by decide) dL_call_331 bc_m102 dL_call_333 rfl ⟨by show 0 + mc ≤ mc; omega, by show 0 + ms ≤ ms; omega⟩
    | 2, hj => exact e_caught (j := 2) (nr := 58) (hpc := 334) hj rfl dL_call_150 csL_27 hS rfl rfl ps_0 (by decide) (by decide) ⟨by show 10 * d + 1 ≤ 10 * (d + 1); omega, by show 8 + (4 + 11) + 128 * d ≤ 128 * (d + 1); omega⟩ ⟨by show 0 + mc ≤ mc; omega, by show 0 + ms ≤ ms; omega⟩ (Nat.le_of_ble_eq_true rfl) (by decide +kernel) dL_call_334 (by decide) dL_call_336 bc_m103 dL_call_338 rfl ⟨by show 0 + mc ≤ mc; omega, by show 0 + ms ≤ ms; omega⟩
    | 3, hj => exact e_caught (j := 3) (nr := 85) (hpc := 339) hj rfl dL_call_150 csL_27 hS rfl rfl ps_0 (by decide) (by decide) ⟨by show 10 * d + 1 ≤ 10 * (d + 1); omega, by show 8 + (4 + 11) + 128 * d ≤ 128 * (d + 1); omega⟩ ⟨by show 0 + mc ≤ mc; omega, by show 0 + ms ≤ ms; omega⟩ (Nat.le_of_ble_eq_true rfl) (by decide +kernel) dL_call_339 (by decide) dL_call_341 bc_m104 dL_call_343 rfl ⟨by show 0 + mc ≤ mc; omega, by show 0 + ms ≤ ms; omega⟩
    | 4, hj => exact e_caught (j := 4) (nr := 112) (hpc := 344) hj rfl dL_call_150 csL_27 hS rfl rfl ps_0 (by decide) (by decide) ⟨by show 10 * d + 1 ≤ 10 * (d + 1); omega, by show 8 + (4 + 11) + 128 * d ≤ 128 * (d + 1); omega⟩ ⟨by show 0 + mc ≤ mc; omega, by show 0 + ms ≤ ms; omega⟩ (Nat.le_of_ble_eq_true rfl) (by decide +kernel) dL_call_344 (by decide) dL_call_346 bc_m105 dL_call_348 rfl ⟨by show 0 + mc ≤ mc; omega, by show 0 + ms ≤ ms; omega⟩
    | z + 5, h => exact absurd h (by omega)
theorem cl_values {l : Launch} (hf : l.stackTraces = false) {M M' : pmM} {d mc ms : Nat} {a b c v : Int32} {res : pmRes} (hS : Sp l kX3_values 64 d mc ms [.ref 0, .int a] M res M') (hr : clR v res) : SpH l kL_call 64 (d + 1) mc ms [.ref 0, .int (nI 5), .int a, .int b, .int c] M (.inl (some (.int v))) M' := by
  refine sph_of hf (by decide +kernel) (Nat.le_of_ble_eq_true rfl) (by intro v hv; simp at hv; rcases hv with rfl | rfl | rfl | rfl | rfl <;> rfl) ?_
  refine e_iload_1 dL_call_0 rfl ?_
  refine e_swT dL_call_1 (o := 153) (by decide +kernel) (by decide +kernel) (show ((1 : Nat) : Int) + 153 = ((154 : Nat) : Int) by decide) ?_
  refine e_aload_0 dL_call_154 rfl ?_
  refine e_iload_2 dL_call_155 rfl ?_
  rcases hr with rfl | ⟨j, hj, rfl, rfl⟩
  · refine e_callV dL_call_156 rfl csL_30 hS rfl rfl ps_0 (by decide) (by decide) ⟨by show 10 * d + 1 ≤ 10 * (d + 1); omega, by show 8 + (2 + 11) + 128 * d ≤ 128 * (d + 1); omega⟩ ⟨by show 0 + mc ≤ mc; omega, by show 0 + ms ≤ ms; omega⟩ rfl rfl (Nat.le_of_ble_eq_true rfl) ?_
    exact e_iret dL_call_159 rfl rfl (by show 0 + mc ≤ mc; omega) (by show 0 + ms ≤ ms; omega) rfl rfl
  · match j, hj with
    | 0, hj => exact e_caught (j := 0) (nr := 5) (hpc := 324) hj rfl dL_call_156 csL_30 hS rfl rfl ps_0 (by decide) (by decide) ⟨by show 10 * d + 1 ≤ 10 * (d + 1); omega, by show 8 + (2 + 11) + 128 * d ≤ 128 * (d + 1); omega⟩ ⟨by show 0 + mc ≤ mc; omega, by show 0 + ms ≤ ms; omega⟩ (Nat.le_of_ble_eq_true rfl) (by decide +kernel) dL_call_324 (by decide) dL_call_326 bc_m101 dL_call_328 rfl ⟨by show 0 + mc ≤ mc; omega, by show 0 + ms ≤ ms; omega⟩
    | 1, hj => exact e_caught (j := 1) (nr := 32) (hpc := 329) hj rfl dL_call_156 csL_30 hS rfl rfl ps_0 (by decide) (by decide) ⟨by show 10 * d + 1 ≤ 10 * (d + 1); omega, by show 8 + (2 + 11) + 128 * d ≤ 128 * (d + 1); omega⟩ ⟨by show 0 + mc ≤ mc; omega, by show 0 + ms ≤ ms; omega⟩ (Nat.le_of_ble_eq_true rfl) (by decide +kernel) dL_call_329 (by decide) dL_call_331 bc_m102 dL_call_333 rfl ⟨by show 0 + mc ≤ mc; omega, by show 0 + ms ≤ ms; omega⟩
    | 2, hj => exact e_caught (j := 2) (nr := 59) (hpc := 334) hj rfl dL_call_156 csL_30 hS rfl rfl ps_0 (by decide) (by decide) ⟨by show 10 * d + 1 ≤ 10 * (d + 1); omega, by show 8 + (2 + 11) + 128 * d ≤ 128 * (d + 1); omega⟩ ⟨by show 0 + mc ≤ mc; omega, by show 0 + ms ≤ ms; omega⟩ (Nat.le_of_ble_eq_true rfl) (by decide +kernel) dL_call_334 (by decide) dL_call_336 bc_m103 dL_call_338 rfl ⟨by show 0 + mc ≤ mc; omega, by show 0 + ms ≤ ms; omega⟩
    | 3, hj => exact e_caught (j := 3) (nr := 86) (hpc := 339) hj rfl dL_call_156 csL_30 hS rfl rfl ps_0 (by decide) (by decide) ⟨by show 10 * d + 1 ≤ 10 * (d + 1); omega, by show 8 + (2 + 11) + 128 * d ≤ 128 * (d + 1); omega⟩ ⟨by show 0 + mc ≤ mc; omega, by show 0 + ms ≤ ms; omega⟩ (Nat.le_of_ble_eq_true rfl) (by decide +kernel) dL_call_339 (by decide) dL_call_341 bc_m104 dL_call_343 rfl ⟨by show 0 + mc ≤ mc; omega, by show 0 + ms ≤ ms; omega⟩
    | 4, hj => exact e_caught (j := 4) (nr := 113) (hpc := 344) hj rfl dL_call_156 csL_30 hS rfl rfl ps_0 (by decide) (by decide) ⟨by show 10 * d + 1 ≤ 10 * (d + 1); omega, by show 8 + (2 + 11) + 128 * d ≤ 128 * (d + 1); omega⟩ ⟨by show 0 + mc ≤ mc; omega, by show 0 + ms ≤ ms; omega⟩ (Nat.le_of_ble_eq_true rfl) (by decide +kernel) dL_call_344 (by decide) dL_call_346 bc_m105 dL_call_348 rfl ⟨by show 0 + mc ≤ mc; omega, by show 0 + ms ≤ ms; omega⟩
    | z + 5, h => exact absurd h (by omega)
theorem cl_hasValue {l : Launch} (hf : l.stackTraces = false) {M M' : pmM} {d mc ms : Nat} {a b c v : Int32} {res : pmRes} (hS : Sp l kX3_hasValue 64 d mc ms [.ref 0, .int a, .int b] M res M') (hr : clR v res) (hv : ∀ x, res = .inl (some (.int x)) → x = nI 0 ∨ x = nI 1) : SpH l kL_call 64 (d + 1) mc ms [.ref 0, .int (nI 6), .int a, .int b, .int c] M (.inl (some (.int v))) M' := by
  refine sph_of hf (by decide +kernel) (Nat.le_of_ble_eq_true rfl) (by intro v hv; simp at hv; rcases hv with rfl | rfl | rfl | rfl | rfl <;> rfl) ?_
  refine e_iload_1 dL_call_0 rfl ?_
  refine e_swT dL_call_1 (o := 159) (by decide +kernel) (by decide +kernel) (show ((1 : Nat) : Int) + 159 = ((160 : Nat) : Int) by decide) ?_
  refine e_aload_0 dL_call_160 rfl ?_
  refine e_iload_2 dL_call_161 rfl ?_
  refine e_iload_3 dL_call_162 rfl ?_
  rcases hr with rfl | ⟨j, hj, rfl, rfl⟩
  · refine e_callV dL_call_163 rfl csL_33 hS rfl rfl ps_0 (by decide) (by decide) ⟨by show 10 * d + 1 ≤ 10 * (d + 1); omega, by show 8 + (3 + 11) + 128 * d ≤ 128 * (d + 1); omega⟩ ⟨by show 0 + mc ≤ mc; omega, by show 0 + ms ≤ ms; omega⟩ rfl rfl (Nat.le_of_ble_eq_true rfl) ?_
    rcases hv _ rfl with rfl | rfl
    · refine e_if_eq_t (tgt := 173) dL_call_166 (by decide) (by decide) ?_
      refine e_iconst (v := nI 0) dL_call_173 rfl ic_0 ?_
      exact e_iret dL_call_174 rfl rfl (by show 0 + mc ≤ mc; omega) (by show 0 + ms ≤ ms; omega) rfl rfl
    · refine e_if_eq_f dL_call_166 rfl ⟨173, by decide⟩ (by decide) ?_
      refine e_iconst (v := nI 1) dL_call_169 rfl ic_1 ?_
      refine e_goto (tgt := 174) dL_call_170 (by decide) ?_
      exact e_iret dL_call_174 rfl rfl (by show 0 + mc ≤ mc; omega) (by show 0 + ms ≤ ms; omega) rfl rfl
  · match j, hj with
    | 0, hj => exact e_caught (j := 0) (nr := 6) (hpc := 324) hj rfl dL_call_163 csL_33 hS rfl rfl ps_0 (by decide) (by decide) ⟨by show 10 * d + 1 ≤ 10 * (d + 1); omega, by show 8 + (3 + 11) + 128 * d ≤ 128 * (d + 1); omega⟩ ⟨by show 0 + mc ≤ mc; omega, by show 0 + ms ≤ ms; omega⟩ (Nat.le_of_ble_eq_true rfl) (by decide +kernel) dL_call_324 (by decide) dL_call_326 bc_m101 dL_call_328 rfl ⟨by show 0 + mc ≤ mc; omega, by show 0 + ms ≤ ms; omega⟩
    | 1, hj => exact e_caught (j := 1) (nr := 33) (hpc := 329) hj rfl dL_call_163 csL_33 hS rfl rfl ps_0 (by decide) (by decide) ⟨by show 10 * d + 1 ≤ 10 * (d + 1); omega, by show 8 + (3 + 11) + 128 * d ≤ 128 * (d + 1); omega⟩ ⟨by show 0 + mc ≤ mc; omega, by show 0 + ms ≤ ms; omega⟩ (Nat.le_of_ble_eq_true rfl) (by decide +kernel) dL_call_329 (by decide) dL_call_331 bc_m102 dL_call_333 rfl ⟨by show 0 + mc ≤ mc; omega, by show 0 + ms ≤ ms; omega⟩
    | 2, hj => exact e_caught (j := 2) (nr := 60) (hpc := 334) hj rfl dL_call_163 csL_33 hS rfl rfl ps_0 (by decide) (by decide) ⟨by show 10 * d + 1 ≤ 10 * (d + 1); omega, by show 8 + (3 + 11) + 128 * d ≤ 128 * (d + 1); omega⟩ ⟨by show 0 + mc ≤ mc; omega, by show 0 + ms ≤ ms; omega⟩ (Nat.le_of_ble_eq_true rfl) (by decide +kernel) dL_call_334 (by decide) dL_call_336 bc_m103 dL_call_338 rfl ⟨by show 0 + mc ≤ mc; omega, by show 0 + ms ≤ ms; omega⟩
    | 3, hj => exact e_caught (j := 3) (nr := 87) (hpc := 339) hj rfl dL_call_163 csL_33 hS rfl rfl ps_0 (by decide) (by decide) ⟨by show 10 * d + 1 ≤ 10 * (d + 1); omega, by show 8 + (3 + 11) + 128 * d ≤ 128 * (d + 1); omega⟩ ⟨by show 0 + mc ≤ mc; omega, by show 0 + ms ≤ ms; omega⟩ (Nat.le_of_ble_eq_true rfl) (by decide +kernel) dL_call_339 (by decide) dL_call_341 bc_m104 dL_call_343 rfl ⟨by show 0 + mc ≤ mc; omega, by show 0 + ms ≤ ms; omega⟩
    | 4, hj => exact e_caught (j := 4) (nr := 114) (hpc := 344) hj rfl dL_call_163 csL_33 hS rfl rfl ps_0 (by decide) (by decide) ⟨by show 10 * d + 1 ≤ 10 * (d + 1); omega, by show 8 + (3 + 11) + 128 * d ≤ 128 * (d + 1); omega⟩ ⟨by show 0 + mc ≤ mc; omega, by show 0 + ms ≤ ms; omega⟩ (Nat.le_of_ble_eq_true rfl) (by decide +kernel) dL_call_344 (by decide) dL_call_346 bc_m105 dL_call_348 rfl ⟨by show 0 + mc ≤ mc; omega, by show 0 + ms ≤ ms; omega⟩
    | z + 5, h => exact absurd h (by omega)
theorem cl_users {l : Launch} (hf : l.stackTraces = false) {M M' : pmM} {d mc ms : Nat} {a b c v : Int32} {res : pmRes} (hS : Sp l kX3_users 64 d mc ms [.ref 0, .int a] M res M') (hr : clR v res) : SpH l kL_call 64 (d + 1) mc ms [.ref 0, .int (nI 7), .int a, .int b, .int c] M (.inl (some (.int v))) M' := by
  refine sph_of hf (by decide +kernel) (Nat.le_of_ble_eq_true rfl) (by intro v hv; simp at hv; rcases hv with rfl | rfl | rfl | rfl | rfl <;> rfl) ?_
  refine e_iload_1 dL_call_0 rfl ?_
  refine e_swT dL_call_1 (o := 174) (by decide +kernel) (by decide +kernel) (show ((1 : Nat) : Int) + 174 = ((175 : Nat) : Int) by decide) ?_
  refine e_aload_0 dL_call_175 rfl ?_
  refine e_iload_2 dL_call_176 rfl ?_
  rcases hr with rfl | ⟨j, hj, rfl, rfl⟩
  · refine e_callV dL_call_177 rfl csL_37 hS rfl rfl ps_0 (by decide) (by decide) ⟨by show 10 * d + 1 ≤ 10 * (d + 1); omega, by show 8 + (5 + 11) + 128 * d ≤ 128 * (d + 1); omega⟩ ⟨by show 0 + mc ≤ mc; omega, by show 0 + ms ≤ ms; omega⟩ rfl rfl (Nat.le_of_ble_eq_true rfl) ?_
    exact e_iret dL_call_180 rfl rfl (by show 0 + mc ≤ mc; omega) (by show 0 + ms ≤ ms; omega) rfl rfl
  · match j, hj with
    | 0, hj => exact e_caught (j := 0) (nr := 7) (hpc := 324) hj rfl dL_call_177 csL_37 hS rfl rfl ps_0 (by decide) (by decide) ⟨by show 10 * d + 1 ≤ 10 * (d + 1); omega, by show 8 + (5 + 11) + 128 * d ≤ 128 * (d + 1); omega⟩ ⟨by show 0 + mc ≤ mc; omega, by show 0 + ms ≤ ms; omega⟩ (Nat.le_of_ble_eq_true rfl) (by decide +kernel) dL_call_324 (by decide) dL_call_326 bc_m101 dL_call_328 rfl ⟨by show 0 + mc ≤ mc; omega, by show 0 + ms ≤ ms; omega⟩
    | 1, hj => exact e_caught (j := 1) (nr := 34) (hpc := 329) hj rfl dL_call_177 csL_37 hS rfl rfl ps_0 (by decide) (by decide) ⟨by show 10 * d + 1 ≤ 10 * (d + 1); omega, by show 8 + (5 + 11) + 128 * d ≤ 128 * (d + 1); omega⟩ ⟨by show 0 + mc ≤ mc; omega, by show 0 + ms ≤ ms; omega⟩ (Nat.le_of_ble_eq_true rfl) (by decide +kernel) dL_call_329 (by decide) dL_call_331 bc_m102 dL_call_333 rfl ⟨by show 0 + mc ≤ mc; omega, by show 0 + ms ≤ ms; omega⟩
    | 2, hj => exact e_caught (j := 2) (nr := 61) (hpc := 334) hj rfl dL_call_177 csL_37 hS rfl rfl ps_0 (by decide) (by decide) ⟨by show 10 * d + 1 ≤ 10 * (d + 1); omega, by show 8 + (5 + 11) + 128 * d ≤ 128 * (d + 1); omega⟩ ⟨by show 0 + mc ≤ mc; omega, by show 0 + ms ≤ ms; omega⟩ (Nat.le_of_ble_eq_true rfl) (by decide +kernel) dL_call_334 (by decide) dL_call_336 bc_m103 dL_call_338 rfl ⟨by show 0 + mc ≤ mc; omega, by show 0 + ms ≤ ms; omega⟩
    | 3, hj => exact e_caught (j := 3) (nr := 88) (hpc := 339) hj rfl dL_call_177 csL_37 hS rfl rfl ps_0 (by decide) (by decide) ⟨by show 10 * d + 1 ≤ 10 * (d + 1); omega, by show 8 + (5 + 11) + 128 * d ≤ 128 * (d + 1); omega⟩ ⟨by show 0 + mc ≤ mc; omega, by show 0 + ms ≤ ms; omega⟩ (Nat.le_of_ble_eq_true rfl) (by decide +kernel) dL_call_339 (by decide) dL_call_341 bc_m104 dL_call_343 rfl ⟨by show 0 + mc ≤ mc; omega, by show 0 + ms ≤ ms; omega⟩
    | 4, hj => exact e_caught (j := 4) (nr := 115) (hpc := 344) hj rfl dL_call_177 csL_37 hS rfl rfl ps_0 (by decide) (by decide) ⟨by show 10 * d + 1 ≤ 10 * (d + 1); omega, by show 8 + (5 + 11) + 128 * d ≤ 128 * (d + 1); omega⟩ ⟨by show 0 + mc ≤ mc; omega, by show 0 + ms ≤ ms; omega⟩ (Nat.le_of_ble_eq_true rfl) (by decide +kernel) dL_call_344 (by decide) dL_call_346 bc_m105 dL_call_348 rfl ⟨by show 0 + mc ≤ mc; omega, by show 0 + ms ≤ ms; omega⟩
    | z + 5, h => exact absurd h (by omega)
theorem cl_removeRule {l : Launch} (hf : l.stackTraces = false) {M M' : pmM} {d mc ms : Nat} {a b c v : Int32} {res : pmRes} (hS : Sp l kX3_removeRule 64 d mc ms [.ref 0, .int a] M res M') (hr : clR v res) : SpH l kL_call 64 (d + 1) mc ms [.ref 0, .int (nI 8), .int a, .int b, .int c] M (.inl (some (.int v))) M' := by
  refine sph_of hf (by decide +kernel) (Nat.le_of_ble_eq_true rfl) (by intro v hv; simp at hv; rcases hv with rfl | rfl | rfl | rfl | rfl <;> rfl) ?_
  refine e_iload_1 dL_call_0 rfl ?_
  refine e_swT dL_call_1 (o := 180) (by decide +kernel) (by decide +kernel) (show ((1 : Nat) : Int) + 180 = ((181 : Nat) : Int) by decide) ?_
  refine e_aload_0 dL_call_181 rfl ?_
  refine e_iload_2 dL_call_182 rfl ?_
  rcases hr with rfl | ⟨j, hj, rfl, rfl⟩
  · refine e_callV dL_call_183 rfl csL_40 hS rfl rfl ps_0 (by decide) (by decide) ⟨by show 10 * d + 1 ≤ 10 * (d + 1); omega, by show 8 + (4 + 11) + 128 * d ≤ 128 * (d + 1); omega⟩ ⟨by show 0 + mc ≤ mc; omega, by show 0 + ms ≤ ms; omega⟩ rfl rfl (Nat.le_of_ble_eq_true rfl) ?_
    exact e_iret dL_call_186 rfl rfl (by show 0 + mc ≤ mc; omega) (by show 0 + ms ≤ ms; omega) rfl rfl
  · match j, hj with
    | 0, hj => exact e_caught (j := 0) (nr := 8) (hpc := 324) hj rfl dL_call_183 csL_40 hS rfl rfl ps_0 (by decide) (by decide) ⟨by show 10 * d + 1 ≤ 10 * (d + 1); omega, by show 8 + (4 + 11) + 128 * d ≤ 128 * (d + 1); omega⟩ ⟨by show 0 + mc ≤ mc; omega, by show 0 + ms ≤ ms; omega⟩ (Nat.le_of_ble_eq_true rfl) (by decide +kernel) dL_call_324 (by decide) dL_call_326 bc_m101 dL_call_328 rfl ⟨by show 0 + mc ≤ mc; omega, by show 0 + ms ≤ ms; omega⟩
    | 1, hj => exact e_caught (j := 1) (nr := 35) (hpc := 329) hj rfl dL_call_183 csL_40 hS rfl rfl ps_0 (by decide) (by decide) ⟨by show 10 * d + 1 ≤ 10 * (d + 1); omega, by show 8 + (4 + 11) + 128 * d ≤ 128 * (d + 1); omega⟩ ⟨by show 0 + mc ≤ mc; omega, by show 0 + ms ≤ ms; omega⟩ (Nat.le_of_ble_eq_true rfl) (by decide +kernel) dL_call_329 (by decide) dL_call_331 bc_m102 dL_call_333 rfl ⟨by show 0 + mc ≤ mc; omega, by show 0 + ms ≤ ms; omega⟩
    | 2, hj => exact e_caught (j := 2) (nr := 62) (hpc := 334) hj rfl dL_call_183 csL_40 hS rfl rfl ps_0 (by decide) (by decide) ⟨by show 10 * d + 1 ≤ 10 * (d + 1); omega, by show 8 + (4 + 11) + 128 * d ≤ 128 * (d + 1); omega⟩ ⟨by show 0 + mc ≤ mc; omega, by show 0 + ms ≤ ms; omega⟩ (Nat.le_of_ble_eq_true rfl) (by decide +kernel) dL_call_334 (by decide) dL_call_336 bc_m103 dL_call_338 rfl ⟨by show 0 + mc ≤ mc; omega, by show 0 + ms ≤ ms; omega⟩
    | 3, hj => exact e_caught (j := 3) (nr := 89) (hpc := 339) hj rfl dL_call_183 csL_40 hS rfl rfl ps_0 (by decide) (by decide) ⟨by show 10 * d + 1 ≤ 10 * (d + 1); omega, by show 8 + (4 + 11) + 128 * d ≤ 128 * (d + 1); omega⟩ ⟨by show 0 + mc ≤ mc; omega, by show 0 + ms ≤ ms; omega⟩ (Nat.le_of_ble_eq_true rfl) (by decide +kernel) dL_call_339 (by decide) dL_call_341 bc_m104 dL_call_343 rfl ⟨by show 0 + mc ≤ mc; omega, by show 0 + ms ≤ ms; omega⟩
    | 4, hj => exact e_caught (j := 4) (nr := 116) (hpc := 344) hj rfl dL_call_183 csL_40 hS rfl rfl ps_0 (by decide) (by decide) ⟨by show 10 * d + 1 ≤ 10 * (d + 1); omega, by show 8 + (4 + 11) + 128 * d ≤ 128 * (d + 1); omega⟩ ⟨by show 0 + mc ≤ mc; omega, by show 0 + ms ≤ ms; omega⟩ (Nat.le_of_ble_eq_true rfl) (by decide +kernel) dL_call_344 (by decide) dL_call_346 bc_m105 dL_call_348 rfl ⟨by show 0 + mc ≤ mc; omega, by show 0 + ms ≤ ms; omega⟩
    | z + 5, h => exact absurd h (by omega)
theorem cl_setLastDay {l : Launch} (hf : l.stackTraces = false) {M M' : pmM} {d mc ms : Nat} {a b c v : Int32} {res : pmRes} (hS : Sp l kX3_setLastDay 64 d mc ms [.ref 0, .int a, .int b] M res M') (hr : clR v res) : SpH l kL_call 64 (d + 1) mc ms [.ref 0, .int (nI 9), .int a, .int b, .int c] M (.inl (some (.int v))) M' := by
  refine sph_of hf (by decide +kernel) (Nat.le_of_ble_eq_true rfl) (by intro v hv; simp at hv; rcases hv with rfl | rfl | rfl | rfl | rfl <;> rfl) ?_
  refine e_iload_1 dL_call_0 rfl ?_
  refine e_swT dL_call_1 (o := 186) (by decide +kernel) (by decide +kernel) (show ((1 : Nat) : Int) + 186 = ((187 : Nat) : Int) by decide) ?_
  refine e_aload_0 dL_call_187 rfl ?_
  refine e_iload_2 dL_call_188 rfl ?_
  refine e_iload_3 dL_call_189 rfl ?_
  rcases hr with rfl | ⟨j, hj, rfl, rfl⟩
  · refine e_callV dL_call_190 rfl csL_43 hS rfl rfl ps_0 (by decide) (by decide) ⟨by show 10 * d + 1 ≤ 10 * (d + 1); omega, by show 8 + (5 + 11) + 128 * d ≤ 128 * (d + 1); omega⟩ ⟨by show 0 + mc ≤ mc; omega, by show 0 + ms ≤ ms; omega⟩ rfl rfl (Nat.le_of_ble_eq_true rfl) ?_
    exact e_iret dL_call_193 rfl rfl (by show 0 + mc ≤ mc; omega) (by show 0 + ms ≤ ms; omega) rfl rfl
  · match j, hj with
    | 0, hj => exact e_caught (j := 0) (nr := 9) (hpc := 324) hj rfl dL_call_190 csL_43 hS rfl rfl ps_0 (by decide) (by decide) ⟨by show 10 * d + 1 ≤ 10 * (d + 1); omega, by show 8 + (5 + 11) + 128 * d ≤ 128 * (d + 1); omega⟩ ⟨by show 0 + mc ≤ mc; omega, by show 0 + ms ≤ ms; omega⟩ (Nat.le_of_ble_eq_true rfl) (by decide +kernel) dL_call_324 (by decide) dL_call_326 bc_m101 dL_call_328 rfl ⟨by show 0 + mc ≤ mc; omega, by show 0 + ms ≤ ms; omega⟩
    | 1, hj => exact e_caught (j := 1) (nr := 36) (hpc := 329) hj rfl dL_call_190 csL_43 hS rfl rfl ps_0 (by decide) (by decide) ⟨by show 10 * d + 1 ≤ 10 * (d + 1); omega, by show 8 + (5 + 11) + 128 * d ≤ 128 * (d + 1); omega⟩ ⟨by show 0 + mc ≤ mc; omega, by show 0 + ms ≤ ms; omega⟩ (Nat.le_of_ble_eq_true rfl) (by decide +kernel) dL_call_329 (by decide) dL_call_331 bc_m102 dL_call_333 rfl ⟨by show 0 + mc ≤ mc; omega, by show 0 + ms ≤ ms; omega⟩
    | 2, hj => exact e_caught (j := 2) (nr := 63) (hpc := 334) hj rfl dL_call_190 csL_43 hS rfl rfl ps_0 (by decide) (by decide) ⟨by show 10 * d + 1 ≤ 10 * (d + 1); omega, by show 8 + (5 + 11) + 128 * d ≤ 128 * (d + 1); omega⟩ ⟨by show 0 + mc ≤ mc; omega, by show 0 + ms ≤ ms; omega⟩ (Nat.le_of_ble_eq_true rfl) (by decide +kernel) dL_call_334 (by decide) dL_call_336 bc_m103 dL_call_338 rfl ⟨by show 0 + mc ≤ mc; omega, by show 0 + ms ≤ ms; omega⟩
    | 3, hj => exact e_caught (j := 3) (nr := 90) (hpc := 339) hj rfl dL_call_190 csL_43 hS rfl rfl ps_0 (by decide) (by decide) ⟨by show 10 * d + 1 ≤ 10 * (d + 1); omega, by show 8 + (5 + 11) + 128 * d ≤ 128 * (d + 1); omega⟩ ⟨by show 0 + mc ≤ mc; omega, by show 0 + ms ≤ ms; omega⟩ (Nat.le_of_ble_eq_true rfl) (by decide +kernel) dL_call_339 (by decide) dL_call_341 bc_m104 dL_call_343 rfl ⟨by show 0 + mc ≤ mc; omega, by show 0 + ms ≤ ms; omega⟩
    | 4, hj => exact e_caught (j := 4) (nr := 117) (hpc := 344) hj rfl dL_call_190 csL_43 hS rfl rfl ps_0 (by decide) (by decide) ⟨by show 10 * d + 1 ≤ 10 * (d + 1); omega, by show 8 + (5 + 11) + 128 * d ≤ 128 * (d + 1); omega⟩ ⟨by show 0 + mc ≤ mc; omega, by show 0 + ms ≤ ms; omega⟩ (Nat.le_of_ble_eq_true rfl) (by decide +kernel) dL_call_344 (by decide) dL_call_346 bc_m105 dL_call_348 rfl ⟨by show 0 + mc ≤ mc; omega, by show 0 + ms ≤ ms; omega⟩
    | z + 5, h => exact absurd h (by omega)
theorem cl_ruleAt {l : Launch} (hf : l.stackTraces = false) {M M' : pmM} {d mc ms : Nat} {a b c v : Int32} {res : pmRes} (hS : Sp l kX3_ruleAt 64 d mc ms [.ref 0, .int a] M res M') (hr : clR v res) : SpH l kL_call 64 (d + 1) mc ms [.ref 0, .int (nI 10), .int a, .int b, .int c] M (.inl (some (.int v))) M' := by
  refine sph_of hf (by decide +kernel) (Nat.le_of_ble_eq_true rfl) (by intro v hv; simp at hv; rcases hv with rfl | rfl | rfl | rfl | rfl <;> rfl) ?_
  refine e_iload_1 dL_call_0 rfl ?_
  refine e_swT dL_call_1 (o := 193) (by decide +kernel) (by decide +kernel) (show ((1 : Nat) : Int) + 193 = ((194 : Nat) : Int) by decide) ?_
  refine e_aload_0 dL_call_194 rfl ?_
  refine e_iload_2 dL_call_195 rfl ?_
  rcases hr with rfl | ⟨j, hj, rfl, rfl⟩
  · refine e_callV dL_call_196 rfl csL_46 hS rfl rfl ps_0 (by decide) (by decide) ⟨by show 10 * d + 1 ≤ 10 * (d + 1); omega, by show 8 + (2 + 11) + 128 * d ≤ 128 * (d + 1); omega⟩ ⟨by show 0 + mc ≤ mc; omega, by show 0 + ms ≤ ms; omega⟩ rfl rfl (Nat.le_of_ble_eq_true rfl) ?_
    exact e_iret dL_call_199 rfl rfl (by show 0 + mc ≤ mc; omega) (by show 0 + ms ≤ ms; omega) rfl rfl
  · match j, hj with
    | 0, hj => exact e_caught (j := 0) (nr := 10) (hpc := 324) hj rfl dL_call_196 csL_46 hS rfl rfl ps_0 (by decide) (by decide) ⟨by show 10 * d + 1 ≤ 10 * (d + 1); omega, by show 8 + (2 + 11) + 128 * d ≤ 128 * (d + 1); omega⟩ ⟨by show 0 + mc ≤ mc; omega, by show 0 + ms ≤ ms; omega⟩ (Nat.le_of_ble_eq_true rfl) (by decide +kernel) dL_call_324 (by decide) dL_call_326 bc_m101 dL_call_328 rfl ⟨by show 0 + mc ≤ mc; omega, by show 0 + ms ≤ ms; omega⟩
    | 1, hj => exact e_caught (j := 1) (nr := 37) (hpc := 329) hj rfl dL_call_196 csL_46 hS rfl rfl ps_0 (by decide) (by decide) ⟨by show 10 * d + 1 ≤ 10 * (d + 1); omega, by show 8 + (2 + 11) + 128 * d ≤ 128 * (d + 1); omega⟩ ⟨by show 0 + mc ≤ mc; omega, by show 0 + ms ≤ ms; omega⟩ (Nat.le_of_ble_eq_true rfl) (by decide +kernel) dL_call_329 (by decide) dL_call_331 bc_m102 dL_call_333 rfl ⟨by show 0 + mc ≤ mc; omega, by show 0 + ms ≤ ms; omega⟩
    | 2, hj => exact e_caught (j := 2) (nr := 64) (hpc := 334) hj rfl dL_call_196 csL_46 hS rfl rfl ps_0 (by decide) (by decide) ⟨by show 10 * d + 1 ≤ 10 * (d + 1); omega, by show 8 + (2 + 11) + 128 * d ≤ 128 * (d + 1); omega⟩ ⟨by show 0 + mc ≤ mc; omega, by show 0 + ms ≤ ms; omega⟩ (Nat.le_of_ble_eq_true rfl) (by decide +kernel) dL_call_334 (by decide) dL_call_336 bc_m103 dL_call_338 rfl ⟨by show 0 + mc ≤ mc; omega, by show 0 + ms ≤ ms; omega⟩
    | 3, hj => exact e_caught (j := 3) (nr := 91) (hpc := 339) hj rfl dL_call_196 csL_46 hS rfl rfl ps_0 (by decide) (by decide) ⟨by show 10 * d + 1 ≤ 10 * (d + 1); omega, by show 8 + (2 + 11) + 128 * d ≤ 128 * (d + 1); omega⟩ ⟨by show 0 + mc ≤ mc; omega, by show 0 + ms ≤ ms; omega⟩ (Nat.le_of_ble_eq_true rfl) (by decide +kernel) dL_call_339 (by decide) dL_call_341 bc_m104 dL_call_343 rfl ⟨by show 0 + mc ≤ mc; omega, by show 0 + ms ≤ ms; omega⟩
    | 4, hj => exact e_caught (j := 4) (nr := 118) (hpc := 344) hj rfl dL_call_196 csL_46 hS rfl rfl ps_0 (by decide) (by decide) ⟨by show 10 * d + 1 ≤ 10 * (d + 1); omega, by show 8 + (2 + 11) + 128 * d ≤ 128 * (d + 1); omega⟩ ⟨by show 0 + mc ≤ mc; omega, by show 0 + ms ≤ ms; omega⟩ (Nat.le_of_ble_eq_true rfl) (by decide +kernel) dL_call_344 (by decide) dL_call_346 bc_m105 dL_call_348 rfl ⟨by show 0 + mc ≤ mc; omega, by show 0 + ms ≤ ms; omega⟩
    | z + 5, h => exact absurd h (by omega)
theorem cl_isInForce {l : Launch} (hf : l.stackTraces = false) {M M' : pmM} {d mc ms : Nat} {a b c v : Int32} {res : pmRes} (hS : Sp l kX3_isInForce 64 d mc ms [.ref 0, .int a] M res M') (hr : clR v res) (hv : ∀ x, res = .inl (some (.int x)) → x = nI 0 ∨ x = nI 1) : SpH l kL_call 64 (d + 1) mc ms [.ref 0, .int (nI 11), .int a, .int b, .int c] M (.inl (some (.int v))) M' := by
  refine sph_of hf (by decide +kernel) (Nat.le_of_ble_eq_true rfl) (by intro v hv; simp at hv; rcases hv with rfl | rfl | rfl | rfl | rfl <;> rfl) ?_
  refine e_iload_1 dL_call_0 rfl ?_
  refine e_swT dL_call_1 (o := 199) (by decide +kernel) (by decide +kernel) (show ((1 : Nat) : Int) + 199 = ((200 : Nat) : Int) by decide) ?_
  refine e_aload_0 dL_call_200 rfl ?_
  refine e_iload_2 dL_call_201 rfl ?_
  rcases hr with rfl | ⟨j, hj, rfl, rfl⟩
  · refine e_callV dL_call_202 rfl csL_49 hS rfl rfl ps_0 (by decide) (by decide) ⟨by show 10 * d + 1 ≤ 10 * (d + 1); omega, by show 8 + (2 + 11) + 128 * d ≤ 128 * (d + 1); omega⟩ ⟨by show 0 + mc ≤ mc; omega, by show 0 + ms ≤ ms; omega⟩ rfl rfl (Nat.le_of_ble_eq_true rfl) ?_
    rcases hv _ rfl with rfl | rfl
    · refine e_if_eq_t (tgt := 212) dL_call_205 (by decide) (by decide) ?_
      refine e_iconst (v := nI 0) dL_call_212 rfl ic_0 ?_
      exact e_iret dL_call_213 rfl rfl (by show 0 + mc ≤ mc; omega) (by show 0 + ms ≤ ms; omega) rfl rfl
    · refine e_if_eq_f dL_call_205 rfl ⟨212, by decide⟩ (by decide) ?_
      refine e_iconst (v := nI 1) dL_call_208 rfl ic_1 ?_
      refine e_goto (tgt := 213) dL_call_209 (by decide) ?_
      exact e_iret dL_call_213 rfl rfl (by show 0 + mc ≤ mc; omega) (by show 0 + ms ≤ ms; omega) rfl rfl
  · match j, hj with
    | 0, hj => exact e_caught (j := 0) (nr := 11) (hpc := 324) hj rfl dL_call_202 csL_49 hS rfl rfl ps_0 (by decide) (by decide) ⟨by show 10 * d + 1 ≤ 10 * (d + 1); omega, by show 8 + (2 + 11) + 128 * d ≤ 128 * (d + 1); omega⟩ ⟨by show 0 + mc ≤ mc; omega, by show 0 + ms ≤ ms; omega⟩ (Nat.le_of_ble_eq_true rfl) (by decide +kernel) dL_call_324 (by decide) dL_call_326 bc_m101 dL_call_328 rfl ⟨by show 0 + mc ≤ mc; omega, by show 0 + ms ≤ ms; omega⟩
    | 1, hj => exact e_caught (j := 1) (nr := 38) (hpc := 329) hj rfl dL_call_202 csL_49 hS rfl rfl ps_0 (by decide) (by decide) ⟨by show 10 * d + 1 ≤ 10 * (d + 1); omega, by show 8 + (2 + 11) + 128 * d ≤ 128 * (d + 1); omega⟩ ⟨by show 0 + mc ≤ mc; omega, by show 0 + ms ≤ ms; omega⟩ (Nat.le_of_ble_eq_true rfl) (by decide +kernel) dL_call_329 (by decide) dL_call_331 bc_m102 dL_call_333 rfl ⟨by show 0 + mc ≤ mc; omega, by show 0 + ms ≤ ms; omega⟩
    | 2, hj => exact e_caught (j := 2) (nr := 65) (hpc := 334) hj rfl dL_call_202 csL_49 hS rfl rfl ps_0 (by decide) (by decide) ⟨by show 10 * d + 1 ≤ 10 * (d + 1); omega, by show 8 + (2 + 11) + 128 * d ≤ 128 * (d + 1); omega⟩ ⟨by show 0 + mc ≤ mc; omega, by show 0 + ms ≤ ms; omega⟩ (Nat.le_of_ble_eq_true rfl) (by decide +kernel) dL_call_334 (by decide) dL_call_336 bc_m103 dL_call_338 rfl ⟨by show 0 + mc ≤ mc; omega, by show 0 + ms ≤ ms; omega⟩
    | 3, hj => exact e_caught (j := 3) (nr := 92) (hpc := 339) hj rfl dL_call_202 csL_49 hS rfl rfl ps_0 (by decide) (by decide) ⟨by show 10 * d + 1 ≤ 10 * (d + 1); omega, by show 8 + (2 + 11) + 128 * d ≤ 128 * (d + 1); omega⟩ ⟨by show 0 + mc ≤ mc; omega, by show 0 + ms ≤ ms; omega⟩ (Nat.le_of_ble_eq_true rfl) (by decide +kernel) dL_call_339 (by decide) dL_call_341 bc_m104 dL_call_343 rfl ⟨by show 0 + mc ≤ mc; omega, by show 0 + ms ≤ ms; omega⟩
    | 4, hj => exact e_caught (j := 4) (nr := 119) (hpc := 344) hj rfl dL_call_202 csL_49 hS rfl rfl ps_0 (by decide) (by decide) ⟨by show 10 * d + 1 ≤ 10 * (d + 1); omega, by show 8 + (2 + 11) + 128 * d ≤ 128 * (d + 1); omega⟩ ⟨by show 0 + mc ≤ mc; omega, by show 0 + ms ≤ ms; omega⟩ (Nat.le_of_ble_eq_true rfl) (by decide +kernel) dL_call_344 (by decide) dL_call_346 bc_m105 dL_call_348 rfl ⟨by show 0 + mc ≤ mc; omega, by show 0 + ms ≤ ms; omega⟩
    | z + 5, h => exact absurd h (by omega)
theorem cl_expiring {l : Launch} (hf : l.stackTraces = false) {M M' : pmM} {d mc ms : Nat} {a b c v : Int32} {res : pmRes} (hS : Sp l kX3_expiring 64 d mc ms [.ref 0, .int a, .int b] M res M') (hr : clR v res) : SpH l kL_call 64 (d + 1) mc ms [.ref 0, .int (nI 12), .int a, .int b, .int c] M (.inl (some (.int v))) M' := by
  refine sph_of hf (by decide +kernel) (Nat.le_of_ble_eq_true rfl) (by intro v hv; simp at hv; rcases hv with rfl | rfl | rfl | rfl | rfl <;> rfl) ?_
  refine e_iload_1 dL_call_0 rfl ?_
  refine e_swT dL_call_1 (o := 213) (by decide +kernel) (by decide +kernel) (show ((1 : Nat) : Int) + 213 = ((214 : Nat) : Int) by decide) ?_
  refine e_aload_0 dL_call_214 rfl ?_
  refine e_iload_2 dL_call_215 rfl ?_
  refine e_iload_3 dL_call_216 rfl ?_
  rcases hr with rfl | ⟨j, hj, rfl, rfl⟩
  · refine e_callV dL_call_217 rfl csL_53 hS rfl rfl ps_0 (by decide) (by decide) ⟨by show 10 * d + 1 ≤ 10 * (d + 1); omega, by show 8 + (6 + 11) + 128 * d ≤ 128 * (d + 1); omega⟩ ⟨by show 0 + mc ≤ mc; omega, by show 0 + ms ≤ ms; omega⟩ rfl rfl (Nat.le_of_ble_eq_true rfl) ?_
    exact e_iret dL_call_220 rfl rfl (by show 0 + mc ≤ mc; omega) (by show 0 + ms ≤ ms; omega) rfl rfl
  · match j, hj with
    | 0, hj => exact e_caught (j := 0) (nr := 12) (hpc := 324) hj rfl dL_call_217 csL_53 hS rfl rfl ps_0 (by decide) (by decide) ⟨by show 10 * d + 1 ≤ 10 * (d + 1); omega, by show 8 + (6 + 11) + 128 * d ≤ 128 * (d + 1); omega⟩ ⟨by show 0 + mc ≤ mc; omega, by show 0 + ms ≤ ms; omega⟩ (Nat.le_of_ble_eq_true rfl) (by decide +kernel) dL_call_324 (by decide) dL_call_326 bc_m101 dL_call_328 rfl ⟨by show 0 + mc ≤ mc; omega, by show 0 + ms ≤ ms; omega⟩
    | 1, hj => exact e_caught (j := 1) (nr := 39) (hpc := 329) hj rfl dL_call_217 csL_53 hS rfl rfl ps_0 (by decide) (by decide) ⟨by show 10 * d + 1 ≤ 10 * (d + 1); omega, by show 8 + (6 + 11) + 128 * d ≤ 128 * (d + 1); omega⟩ ⟨by show 0 + mc ≤ mc; omega, by show 0 + ms ≤ ms; omega⟩ (Nat.le_of_ble_eq_true rfl) (by decide +kernel) dL_call_329 (by decide) dL_call_331 bc_m102 dL_call_333 rfl ⟨by show 0 + mc ≤ mc; omega, by show 0 + ms ≤ ms; omega⟩
    | 2, hj => exact e_caught (j := 2) (nr := 66) (hpc := 334) hj rfl dL_call_217 csL_53 hS rfl rfl ps_0 (by decide) (by decide) ⟨by show 10 * d + 1 ≤ 10 * (d + 1); omega, by show 8 + (6 + 11) + 128 * d ≤ 128 * (d + 1); omega⟩ ⟨by show 0 + mc ≤ mc; omega, by show 0 + ms ≤ ms; omega⟩ (Nat.le_of_ble_eq_true rfl) (by decide +kernel) dL_call_334 (by decide) dL_call_336 bc_m103 dL_call_338 rfl ⟨by show 0 + mc ≤ mc; omega, by show 0 + ms ≤ ms; omega⟩
    | 3, hj => exact e_caught (j := 3) (nr := 93) (hpc := 339) hj rfl dL_call_217 csL_53 hS rfl rfl ps_0 (by decide) (by decide) ⟨by show 10 * d + 1 ≤ 10 * (d + 1); omega, by show 8 + (6 + 11) + 128 * d ≤ 128 * (d + 1); omega⟩ ⟨by show 0 + mc ≤ mc; omega, by show 0 + ms ≤ ms; omega⟩ (Nat.le_of_ble_eq_true rfl) (by decide +kernel) dL_call_339 (by decide) dL_call_341 bc_m104 dL_call_343 rfl ⟨by show 0 + mc ≤ mc; omega, by show 0 + ms ≤ ms; omega⟩
    | 4, hj => exact e_caught (j := 4) (nr := 120) (hpc := 344) hj rfl dL_call_217 csL_53 hS rfl rfl ps_0 (by decide) (by decide) ⟨by show 10 * d + 1 ≤ 10 * (d + 1); omega, by show 8 + (6 + 11) + 128 * d ≤ 128 * (d + 1); omega⟩ ⟨by show 0 + mc ≤ mc; omega, by show 0 + ms ≤ ms; omega⟩ (Nat.le_of_ble_eq_true rfl) (by decide +kernel) dL_call_344 (by decide) dL_call_346 bc_m105 dL_call_348 rfl ⟨by show 0 + mc ≤ mc; omega, by show 0 + ms ≤ ms; omega⟩
    | z + 5, h => exact absurd h (by omega)
theorem cl_packet {l : Launch} (hf : l.stackTraces = false) {M M' : pmM} {d mc ms : Nat} {a b c v : Int32} {res : pmRes} (hS : Sp l kX3_packet 64 d mc ms [.ref 0, .int a, .int b, .int c] M res M') (hr : clR v res) : SpH l kL_call 64 (d + 1) mc ms [.ref 0, .int (nI 13), .int a, .int b, .int c] M (.inl (some (.int v))) M' := by
  refine sph_of hf (by decide +kernel) (Nat.le_of_ble_eq_true rfl) (by intro v hv; simp at hv; rcases hv with rfl | rfl | rfl | rfl | rfl <;> rfl) ?_
  refine e_iload_1 dL_call_0 rfl ?_
  refine e_swT dL_call_1 (o := 220) (by decide +kernel) (by decide +kernel) (show ((1 : Nat) : Int) + 220 = ((221 : Nat) : Int) by decide) ?_
  refine e_aload_0 dL_call_221 rfl ?_
  refine e_iload_2 dL_call_222 rfl ?_
  refine e_iload_3 dL_call_223 rfl ?_
  refine e_iload_4 dL_call_224 rfl ?_
  rcases hr with rfl | ⟨j, hj, rfl, rfl⟩
  · refine e_callV dL_call_226 rfl csL_56 hS rfl rfl ps_0 (by decide) (by decide) ⟨by show 10 * d + 1 ≤ 10 * (d + 1); omega, by show 8 + (6 + 11) + 128 * d ≤ 128 * (d + 1); omega⟩ ⟨by show 0 + mc ≤ mc; omega, by show 0 + ms ≤ ms; omega⟩ rfl rfl (Nat.le_of_ble_eq_true rfl) ?_
    exact e_iret dL_call_229 rfl rfl (by show 0 + mc ≤ mc; omega) (by show 0 + ms ≤ ms; omega) rfl rfl
  · match j, hj with
    | 0, hj => exact e_caught (j := 0) (nr := 13) (hpc := 324) hj rfl dL_call_226 csL_56 hS rfl rfl ps_0 (by decide) (by decide) ⟨by show 10 * d + 1 ≤ 10 * (d + 1); omega, by show 8 + (6 + 11) + 128 * d ≤ 128 * (d + 1); omega⟩ ⟨by show 0 + mc ≤ mc; omega, by show 0 + ms ≤ ms; omega⟩ (Nat.le_of_ble_eq_true rfl) (by decide +kernel) dL_call_324 (by decide) dL_call_326 bc_m101 dL_call_328 rfl ⟨by show 0 + mc ≤ mc; omega, by show 0 + ms ≤ ms; omega⟩
    | 1, hj => exact e_caught (j := 1) (nr := 40) (hpc := 329) hj rfl dL_call_226 csL_56 hS rfl rfl ps_0 (by decide) (by decide) ⟨by show 10 * d + 1 ≤ 10 * (d + 1); omega, by show 8 + (6 + 11) + 128 * d ≤ 128 * (d + 1); omega⟩ ⟨by show 0 + mc ≤ mc; omega, by show 0 + ms ≤ ms; omega⟩ (Nat.le_of_ble_eq_true rfl) (by decide +kernel) dL_call_329 (by decide) dL_call_331 bc_m102 dL_call_333 rfl ⟨by show 0 + mc ≤ mc; omega, by show 0 + ms ≤ ms; omega⟩
    | 2, hj => exact e_caught (j := 2) (nr := 67) (hpc := 334) hj rfl dL_call_226 csL_56 hS rfl rfl ps_0 (by decide) (by decide) ⟨by show 10 * d + 1 ≤ 10 * (d + 1); omega, by show 8 + (6 + 11) + 128 * d ≤ 128 * (d + 1); omega⟩ ⟨by show 0 + mc ≤ mc; omega, by show 0 + ms ≤ ms; omega⟩ (Nat.le_of_ble_eq_true rfl) (by decide +kernel) dL_call_334 (by decide) dL_call_336 bc_m103 dL_call_338 rfl ⟨by show 0 + mc ≤ mc; omega, by show 0 + ms ≤ ms; omega⟩
    | 3, hj => exact e_caught (j := 3) (nr := 94) (hpc := 339) hj rfl dL_call_226 csL_56 hS rfl rfl ps_0 (by decide) (by decide) ⟨by show 10 * d + 1 ≤ 10 * (d + 1); omega, by show 8 + (6 + 11) + 128 * d ≤ 128 * (d + 1); omega⟩ ⟨by show 0 + mc ≤ mc; omega, by show 0 + ms ≤ ms; omega⟩ (Nat.le_of_ble_eq_true rfl) (by decide +kernel) dL_call_339 (by decide) dL_call_341 bc_m104 dL_call_343 rfl ⟨by show 0 + mc ≤ mc; omega, by show 0 + ms ≤ ms; omega⟩
    | 4, hj => exact e_caught (j := 4) (nr := 121) (hpc := 344) hj rfl dL_call_226 csL_56 hS rfl rfl ps_0 (by decide) (by decide) ⟨by show 10 * d + 1 ≤ 10 * (d + 1); omega, by show 8 + (6 + 11) + 128 * d ≤ 128 * (d + 1); omega⟩ ⟨by show 0 + mc ≤ mc; omega, by show 0 + ms ≤ ms; omega⟩ (Nat.le_of_ble_eq_true rfl) (by decide +kernel) dL_call_344 (by decide) dL_call_346 bc_m105 dL_call_348 rfl ⟨by show 0 + mc ≤ mc; omega, by show 0 + ms ≤ ms; omega⟩
    | z + 5, h => exact absurd h (by omega)
theorem cl_decider {l : Launch} (hf : l.stackTraces = false) {M M' : pmM} {d mc ms : Nat} {a b c v : Int32} {res : pmRes} (hS : Sp l kX3_decider 64 d mc ms [.ref 0, .int a, .int b, .int c] M res M') (hr : clR v res) : SpH l kL_call 64 (d + 1) mc ms [.ref 0, .int (nI 14), .int a, .int b, .int c] M (.inl (some (.int v))) M' := by
  refine sph_of hf (by decide +kernel) (Nat.le_of_ble_eq_true rfl) (by intro v hv; simp at hv; rcases hv with rfl | rfl | rfl | rfl | rfl <;> rfl) ?_
  refine e_iload_1 dL_call_0 rfl ?_
  refine e_swT dL_call_1 (o := 229) (by decide +kernel) (by decide +kernel) (show ((1 : Nat) : Int) + 229 = ((230 : Nat) : Int) by decide) ?_
  refine e_aload_0 dL_call_230 rfl ?_
  refine e_iload_2 dL_call_231 rfl ?_
  refine e_iload_3 dL_call_232 rfl ?_
  refine e_iload_4 dL_call_233 rfl ?_
  rcases hr with rfl | ⟨j, hj, rfl, rfl⟩
  · refine e_callV dL_call_235 rfl csL_60 hS rfl rfl ps_0 (by decide) (by decide) ⟨by show 10 * d + 1 ≤ 10 * (d + 1); omega, by show 8 + (5 + 11) + 128 * d ≤ 128 * (d + 1); omega⟩ ⟨by show 0 + mc ≤ mc; omega, by show 0 + ms ≤ ms; omega⟩ rfl rfl (Nat.le_of_ble_eq_true rfl) ?_
    exact e_iret dL_call_238 rfl rfl (by show 0 + mc ≤ mc; omega) (by show 0 + ms ≤ ms; omega) rfl rfl
  · match j, hj with
    | 0, hj => exact e_caught (j := 0) (nr := 14) (hpc := 324) hj rfl dL_call_235 csL_60 hS rfl rfl ps_0 (by decide) (by decide) ⟨by show 10 * d + 1 ≤ 10 * (d + 1); omega, by show 8 + (5 + 11) + 128 * d ≤ 128 * (d + 1); omega⟩ ⟨by show 0 + mc ≤ mc; omega, by show 0 + ms ≤ ms; omega⟩ (Nat.le_of_ble_eq_true rfl) (by decide +kernel) dL_call_324 (by decide) dL_call_326 bc_m101 dL_call_328 rfl ⟨by show 0 + mc ≤ mc; omega, by show 0 + ms ≤ ms; omega⟩
    | 1, hj => exact e_caught (j := 1) (nr := 41) (hpc := 329) hj rfl dL_call_235 csL_60 hS rfl rfl ps_0 (by decide) (by decide) ⟨by show 10 * d + 1 ≤ 10 * (d + 1); omega, by show 8 + (5 + 11) + 128 * d ≤ 128 * (d + 1); omega⟩ ⟨by show 0 + mc ≤ mc; omega, by show 0 + ms ≤ ms; omega⟩ (Nat.le_of_ble_eq_true rfl) (by decide +kernel) dL_call_329 (by decide) dL_call_331 bc_m102 dL_call_333 rfl ⟨by show 0 + mc ≤ mc; omega, by show 0 + ms ≤ ms; omega⟩
    | 2, hj => exact e_caught (j := 2) (nr := 68) (hpc := 334) hj rfl dL_call_235 csL_60 hS rfl rfl ps_0 (by decide) (by decide) ⟨by show 10 * d + 1 ≤ 10 * (d + 1); omega, by show 8 + (5 + 11) + 128 * d ≤ 128 * (d + 1); omega⟩ ⟨by show 0 + mc ≤ mc; omega, by show 0 + ms ≤ ms; omega⟩ (Nat.le_of_ble_eq_true rfl) (by decide +kernel) dL_call_334 (by decide) dL_call_336 bc_m103 dL_call_338 rfl ⟨by show 0 + mc ≤ mc; omega, by show 0 + ms ≤ ms; omega⟩
    | 3, hj => exact e_caught (j := 3) (nr := 95) (hpc := 339) hj rfl dL_call_235 csL_60 hS rfl rfl ps_0 (by decide) (by decide) ⟨by show 10 * d + 1 ≤ 10 * (d + 1); omega, by show 8 + (5 + 11) + 128 * d ≤ 128 * (d + 1); omega⟩ ⟨by show 0 + mc ≤ mc; omega, by show 0 + ms ≤ ms; omega⟩ (Nat.le_of_ble_eq_true rfl) (by decide +kernel) dL_call_339 (by decide) dL_call_341 bc_m104 dL_call_343 rfl ⟨by show 0 + mc ≤ mc; omega, by show 0 + ms ≤ ms; omega⟩
    | 4, hj => exact e_caught (j := 4) (nr := 122) (hpc := 344) hj rfl dL_call_235 csL_60 hS rfl rfl ps_0 (by decide) (by decide) ⟨by show 10 * d + 1 ≤ 10 * (d + 1); omega, by show 8 + (5 + 11) + 128 * d ≤ 128 * (d + 1); omega⟩ ⟨by show 0 + mc ≤ mc; omega, by show 0 + ms ≤ ms; omega⟩ (Nat.le_of_ble_eq_true rfl) (by decide +kernel) dL_call_344 (by decide) dL_call_346 bc_m105 dL_call_348 rfl ⟨by show 0 + mc ≤ mc; omega, by show 0 + ms ≤ ms; omega⟩
    | z + 5, h => exact absurd h (by omega)
theorem cl_hits {l : Launch} (hf : l.stackTraces = false) {M M' : pmM} {d mc ms : Nat} {a b c v : Int32} {res : pmRes} (hS : Sp l kX3_hits 64 d mc ms [.ref 0, .int a] M res M') (hr : clR v res) : SpH l kL_call 64 (d + 1) mc ms [.ref 0, .int (nI 15), .int a, .int b, .int c] M (.inl (some (.int v))) M' := by
  refine sph_of hf (by decide +kernel) (Nat.le_of_ble_eq_true rfl) (by intro v hv; simp at hv; rcases hv with rfl | rfl | rfl | rfl | rfl <;> rfl) ?_
  refine e_iload_1 dL_call_0 rfl ?_
  refine e_swT dL_call_1 (o := 238) (by decide +kernel) (by decide +kernel) (show ((1 : Nat) : Int) + 238 = ((239 : Nat) : Int) by decide) ?_
  refine e_aload_0 dL_call_239 rfl ?_
  refine e_iload_2 dL_call_240 rfl ?_
  rcases hr with rfl | ⟨j, hj, rfl, rfl⟩
  · refine e_callV dL_call_241 rfl csL_63 hS rfl rfl ps_0 (by decide) (by decide) ⟨by show 10 * d + 1 ≤ 10 * (d + 1); omega, by show 8 + (2 + 11) + 128 * d ≤ 128 * (d + 1); omega⟩ ⟨by show 0 + mc ≤ mc; omega, by show 0 + ms ≤ ms; omega⟩ rfl rfl (Nat.le_of_ble_eq_true rfl) ?_
    exact e_iret dL_call_244 rfl rfl (by show 0 + mc ≤ mc; omega) (by show 0 + ms ≤ ms; omega) rfl rfl
  · match j, hj with
    | 0, hj => exact e_caught (j := 0) (nr := 15) (hpc := 324) hj rfl dL_call_241 csL_63 hS rfl rfl ps_0 (by decide) (by decide) ⟨by show 10 * d + 1 ≤ 10 * (d + 1); omega, by show 8 + (2 + 11) + 128 * d ≤ 128 * (d + 1); omega⟩ ⟨by show 0 + mc ≤ mc; omega, by show 0 + ms ≤ ms; omega⟩ (Nat.le_of_ble_eq_true rfl) (by decide +kernel) dL_call_324 (by decide) dL_call_326 bc_m101 dL_call_328 rfl ⟨by show 0 + mc ≤ mc; omega, by show 0 + ms ≤ ms; omega⟩
    | 1, hj => exact e_caught (j := 1) (nr := 42) (hpc := 329) hj rfl dL_call_241 csL_63 hS rfl rfl ps_0 (by decide) (by decide) ⟨by show 10 * d + 1 ≤ 10 * (d + 1); omega, by show 8 + (2 + 11) + 128 * d ≤ 128 * (d + 1); omega⟩ ⟨by show 0 + mc ≤ mc; omega, by show 0 + ms ≤ ms; omega⟩ (Nat.le_of_ble_eq_true rfl) (by decide +kernel) dL_call_329 (by decide) dL_call_331 bc_m102 dL_call_333 rfl ⟨by show 0 + mc ≤ mc; omega, by show 0 + ms ≤ ms; omega⟩
    | 2, hj => exact e_caught (j := 2) (nr := 69) (hpc := 334) hj rfl dL_call_241 csL_63 hS rfl rfl ps_0 (by decide) (by decide) ⟨by show 10 * d + 1 ≤ 10 * (d + 1); omega, by show 8 + (2 + 11) + 128 * d ≤ 128 * (d + 1); omega⟩ ⟨by show 0 + mc ≤ mc; omega, by show 0 + ms ≤ ms; omega⟩ (Nat.le_of_ble_eq_true rfl) (by decide +kernel) dL_call_334 (by decide) dL_call_336 bc_m103 dL_call_338 rfl ⟨by show 0 + mc ≤ mc; omega, by show 0 + ms ≤ ms; omega⟩
    | 3, hj => exact e_caught (j := 3) (nr := 96) (hpc := 339) hj rfl dL_call_241 csL_63 hS rfl rfl ps_0 (by decide) (by decide) ⟨by show 10 * d + 1 ≤ 10 * (d + 1); omega, by show 8 + (2 + 11) + 128 * d ≤ 128 * (d + 1); omega⟩ ⟨by show 0 + mc ≤ mc; omega, by show 0 + ms ≤ ms; omega⟩ (Nat.le_of_ble_eq_true rfl) (by decide +kernel) dL_call_339 (by decide) dL_call_341 bc_m104 dL_call_343 rfl ⟨by show 0 + mc ≤ mc; omega, by show 0 + ms ≤ ms; omega⟩
    | 4, hj => exact e_caught (j := 4) (nr := 123) (hpc := 344) hj rfl dL_call_241 csL_63 hS rfl rfl ps_0 (by decide) (by decide) ⟨by show 10 * d + 1 ≤ 10 * (d + 1); omega, by show 8 + (2 + 11) + 128 * d ≤ 128 * (d + 1); omega⟩ ⟨by show 0 + mc ≤ mc; omega, by show 0 + ms ≤ ms; omega⟩ (Nat.le_of_ble_eq_true rfl) (by decide +kernel) dL_call_344 (by decide) dL_call_346 bc_m105 dL_call_348 rfl ⟨by show 0 + mc ≤ mc; omega, by show 0 + ms ≤ ms; omega⟩
    | z + 5, h => exact absurd h (by omega)
theorem cl_busyDays {l : Launch} (hf : l.stackTraces = false) {M M' : pmM} {d mc ms : Nat} {a b c v : Int32} {res : pmRes} (hS : Sp l kX3_busyDays 64 d mc ms [.ref 0, .int a] M res M') (hr : clR v res) : SpH l kL_call 64 (d + 1) mc ms [.ref 0, .int (nI 16), .int a, .int b, .int c] M (.inl (some (.int v))) M' := by
  refine sph_of hf (by decide +kernel) (Nat.le_of_ble_eq_true rfl) (by intro v hv; simp at hv; rcases hv with rfl | rfl | rfl | rfl | rfl <;> rfl) ?_
  refine e_iload_1 dL_call_0 rfl ?_
  refine e_swT dL_call_1 (o := 244) (by decide +kernel) (by decide +kernel) (show ((1 : Nat) : Int) + 244 = ((245 : Nat) : Int) by decide) ?_
  refine e_aload_0 dL_call_245 rfl ?_
  refine e_iload_2 dL_call_246 rfl ?_
  rcases hr with rfl | ⟨j, hj, rfl, rfl⟩
  · refine e_callV dL_call_247 rfl csL_66 hS rfl rfl ps_0 (by decide) (by decide) ⟨by show 10 * d + 1 ≤ 10 * (d + 1); omega, by show 8 + (2 + 11) + 128 * d ≤ 128 * (d + 1); omega⟩ ⟨by show 0 + mc ≤ mc; omega, by show 0 + ms ≤ ms; omega⟩ rfl rfl (Nat.le_of_ble_eq_true rfl) ?_
    exact e_iret dL_call_250 rfl rfl (by show 0 + mc ≤ mc; omega) (by show 0 + ms ≤ ms; omega) rfl rfl
  · match j, hj with
    | 0, hj => exact e_caught (j := 0) (nr := 16) (hpc := 324) hj rfl dL_call_247 csL_66 hS rfl rfl ps_0 (by decide) (by decide) ⟨by show 10 * d + 1 ≤ 10 * (d + 1); omega, by show 8 + (2 + 11) + 128 * d ≤ 128 * (d + 1); omega⟩ ⟨by show 0 + mc ≤ mc; omega, by show 0 + ms ≤ ms; omega⟩ (Nat.le_of_ble_eq_true rfl) (by decide +kernel) dL_call_324 (by decide) dL_call_326 bc_m101 dL_call_328 rfl ⟨by show 0 + mc ≤ mc; omega, by show 0 + ms ≤ ms; omega⟩
    | 1, hj => exact e_caught (j := 1) (nr := 43) (hpc := 329) hj rfl dL_call_247 csL_66 hS rfl rfl ps_0 (by decide) (by decide) ⟨by show 10 * d + 1 ≤ 10 * (d + 1); omega, by show 8 + (2 + 11) + 128 * d ≤ 128 * (d + 1); omega⟩ ⟨by show 0 + mc ≤ mc; omega, by show 0 + ms ≤ ms; omega⟩ (Nat.le_of_ble_eq_true rfl) (by decide +kernel) dL_call_329 (by decide) dL_call_331 bc_m102 dL_call_333 rfl ⟨by show 0 + mc ≤ mc; omega, by show 0 + ms ≤ ms; omega⟩
    | 2, hj => exact e_caught (j := 2) (nr := 70) (hpc := 334) hj rfl dL_call_247 csL_66 hS rfl rfl ps_0 (by decide) (by decide) ⟨by show 10 * d + 1 ≤ 10 * (d + 1); omega, by show 8 + (2 + 11) + 128 * d ≤ 128 * (d + 1); omega⟩ ⟨by show 0 + mc ≤ mc; omega, by show 0 + ms ≤ ms; omega⟩ (Nat.le_of_ble_eq_true rfl) (by decide +kernel) dL_call_334 (by decide) dL_call_336 bc_m103 dL_call_338 rfl ⟨by show 0 + mc ≤ mc; omega, by show 0 + ms ≤ ms; omega⟩
    | 3, hj => exact e_caught (j := 3) (nr := 97) (hpc := 339) hj rfl dL_call_247 csL_66 hS rfl rfl ps_0 (by decide) (by decide) ⟨by show 10 * d + 1 ≤ 10 * (d + 1); omega, by show 8 + (2 + 11) + 128 * d ≤ 128 * (d + 1); omega⟩ ⟨by show 0 + mc ≤ mc; omega, by show 0 + ms ≤ ms; omega⟩ (Nat.le_of_ble_eq_true rfl) (by decide +kernel) dL_call_339 (by decide) dL_call_341 bc_m104 dL_call_343 rfl ⟨by show 0 + mc ≤ mc; omega, by show 0 + ms ≤ ms; omega⟩
    | 4, hj => exact e_caught (j := 4) (nr := 124) (hpc := 344) hj rfl dL_call_247 csL_66 hS rfl rfl ps_0 (by decide) (by decide) ⟨by show 10 * d + 1 ≤ 10 * (d + 1); omega, by show 8 + (2 + 11) + 128 * d ≤ 128 * (d + 1); omega⟩ ⟨by show 0 + mc ≤ mc; omega, by show 0 + ms ≤ ms; omega⟩ (Nat.le_of_ble_eq_true rfl) (by decide +kernel) dL_call_344 (by decide) dL_call_346 bc_m105 dL_call_348 rfl ⟨by show 0 + mc ≤ mc; omega, by show 0 + ms ≤ ms; omega⟩
    | z + 5, h => exact absurd h (by omega)
theorem cl_idleDays {l : Launch} (hf : l.stackTraces = false) {M M' : pmM} {d mc ms : Nat} {a b c v : Int32} {res : pmRes} (hS : Sp l kX3_idleDays 64 d mc ms [.ref 0, .int a] M res M') (hr : clR v res) : SpH l kL_call 64 (d + 1) mc ms [.ref 0, .int (nI 17), .int a, .int b, .int c] M (.inl (some (.int v))) M' := by
  refine sph_of hf (by decide +kernel) (Nat.le_of_ble_eq_true rfl) (by intro v hv; simp at hv; rcases hv with rfl | rfl | rfl | rfl | rfl <;> rfl) ?_
  refine e_iload_1 dL_call_0 rfl ?_
  refine e_swT dL_call_1 (o := 250) (by decide +kernel) (by decide +kernel) (show ((1 : Nat) : Int) + 250 = ((251 : Nat) : Int) by decide) ?_
  refine e_aload_0 dL_call_251 rfl ?_
  refine e_iload_2 dL_call_252 rfl ?_
  rcases hr with rfl | ⟨j, hj, rfl, rfl⟩
  · refine e_callV dL_call_253 rfl csL_69 hS rfl rfl ps_0 (by decide) (by decide) ⟨by show 10 * d + 1 ≤ 10 * (d + 1); omega, by show 8 + (3 + 11) + 128 * d ≤ 128 * (d + 1); omega⟩ ⟨by show 0 + mc ≤ mc; omega, by show 0 + ms ≤ ms; omega⟩ rfl rfl (Nat.le_of_ble_eq_true rfl) ?_
    exact e_iret dL_call_256 rfl rfl (by show 0 + mc ≤ mc; omega) (by show 0 + ms ≤ ms; omega) rfl rfl
  · match j, hj with
    | 0, hj => exact e_caught (j := 0) (nr := 17) (hpc := 324) hj rfl dL_call_253 csL_69 hS rfl rfl ps_0 (by decide) (by decide) ⟨by show 10 * d + 1 ≤ 10 * (d + 1); omega, by show 8 + (3 + 11) + 128 * d ≤ 128 * (d + 1); omega⟩ ⟨by show 0 + mc ≤ mc; omega, by show 0 + ms ≤ ms; omega⟩ (Nat.le_of_ble_eq_true rfl) (by decide +kernel) dL_call_324 (by decide) dL_call_326 bc_m101 dL_call_328 rfl ⟨by show 0 + mc ≤ mc; omega, by show 0 + ms ≤ ms; omega⟩
    | 1, hj => exact e_caught (j := 1) (nr := 44) (hpc := 329) hj rfl dL_call_253 csL_69 hS rfl rfl ps_0 (by decide) (by decide) ⟨by show 10 * d + 1 ≤ 10 * (d + 1); omega, by show 8 + (3 + 11) + 128 * d ≤ 128 * (d + 1); omega⟩ ⟨by show 0 + mc ≤ mc; omega, by show 0 + ms ≤ ms; omega⟩ (Nat.le_of_ble_eq_true rfl) (by decide +kernel) dL_call_329 (by decide) dL_call_331 bc_m102 dL_call_333 rfl ⟨by show 0 + mc ≤ mc; omega, by show 0 + ms ≤ ms; omega⟩
    | 2, hj => exact e_caught (j := 2) (nr := 71) (hpc := 334) hj rfl dL_call_253 csL_69 hS rfl rfl ps_0 (by decide) (by decide) ⟨by show 10 * d + 1 ≤ 10 * (d + 1); omega, by show 8 + (3 + 11) + 128 * d ≤ 128 * (d + 1); omega⟩ ⟨by show 0 + mc ≤ mc; omega, by show 0 + ms ≤ ms; omega⟩ (Nat.le_of_ble_eq_true rfl) (by decide +kernel) dL_call_334 (by decide) dL_call_336 bc_m103 dL_call_338 rfl ⟨by show 0 + mc ≤ mc; omega, by show 0 + ms ≤ ms; omega⟩
    | 3, hj => exact e_caught (j := 3) (nr := 98) (hpc := 339) hj rfl dL_call_253 csL_69 hS rfl rfl ps_0 (by decide) (by decide) ⟨by show 10 * d + 1 ≤ 10 * (d + 1); omega, by show 8 + (3 + 11) + 128 * d ≤ 128 * (d + 1); omega⟩ ⟨by show 0 + mc ≤ mc; omega, by show 0 + ms ≤ ms; omega⟩ (Nat.le_of_ble_eq_true rfl) (by decide +kernel) dL_call_339 (by decide) dL_call_341 bc_m104 dL_call_343 rfl ⟨by show 0 + mc ≤ mc; omega, by show 0 + ms ≤ ms; omega⟩
    | 4, hj => exact e_caught (j := 4) (nr := 125) (hpc := 344) hj rfl dL_call_253 csL_69 hS rfl rfl ps_0 (by decide) (by decide) ⟨by show 10 * d + 1 ≤ 10 * (d + 1); omega, by show 8 + (3 + 11) + 128 * d ≤ 128 * (d + 1); omega⟩ ⟨by show 0 + mc ≤ mc; omega, by show 0 + ms ≤ ms; omega⟩ (Nat.le_of_ble_eq_true rfl) (by decide +kernel) dL_call_344 (by decide) dL_call_346 bc_m105 dL_call_348 rfl ⟨by show 0 + mc ≤ mc; omega, by show 0 + ms ≤ ms; omega⟩
    | z + 5, h => exact absurd h (by omega)
theorem cl_pass {l : Launch} (hf : l.stackTraces = false) {M M' : pmM} {d mc ms : Nat} {a b c v : Int32} {res : pmRes} (hS : Sp l kX3_pass 64 d mc ms [.ref 0, .int a] M res M') (hr : clR v res) : SpH l kL_call 64 (d + 1) mc ms [.ref 0, .int (nI 18), .int a, .int b, .int c] M (.inl (some (.int v))) M' := by
  refine sph_of hf (by decide +kernel) (Nat.le_of_ble_eq_true rfl) (by intro v hv; simp at hv; rcases hv with rfl | rfl | rfl | rfl | rfl <;> rfl) ?_
  refine e_iload_1 dL_call_0 rfl ?_
  refine e_swT dL_call_1 (o := 256) (by decide +kernel) (by decide +kernel) (show ((1 : Nat) : Int) + 256 = ((257 : Nat) : Int) by decide) ?_
  refine e_aload_0 dL_call_257 rfl ?_
  refine e_iload_2 dL_call_258 rfl ?_
  rcases hr with rfl | ⟨j, hj, rfl, rfl⟩
  · refine e_callV dL_call_259 rfl csL_72 hS rfl rfl ps_0 (by decide) (by decide) ⟨by show 10 * d + 1 ≤ 10 * (d + 1); omega, by show 8 + (2 + 11) + 128 * d ≤ 128 * (d + 1); omega⟩ ⟨by show 0 + mc ≤ mc; omega, by show 0 + ms ≤ ms; omega⟩ rfl rfl (Nat.le_of_ble_eq_true rfl) ?_
    exact e_iret dL_call_262 rfl rfl (by show 0 + mc ≤ mc; omega) (by show 0 + ms ≤ ms; omega) rfl rfl
  · match j, hj with
    | 0, hj => exact e_caught (j := 0) (nr := 18) (hpc := 324) hj rfl dL_call_259 csL_72 hS rfl rfl ps_0 (by decide) (by decide) ⟨by show 10 * d + 1 ≤ 10 * (d + 1); omega, by show 8 + (2 + 11) + 128 * d ≤ 128 * (d + 1); omega⟩ ⟨by show 0 + mc ≤ mc; omega, by show 0 + ms ≤ ms; omega⟩ (Nat.le_of_ble_eq_true rfl) (by decide +kernel) dL_call_324 (by decide) dL_call_326 bc_m101 dL_call_328 rfl ⟨by show 0 + mc ≤ mc; omega, by show 0 + ms ≤ ms; omega⟩
    | 1, hj => exact e_caught (j := 1) (nr := 45) (hpc := 329) hj rfl dL_call_259 csL_72 hS rfl rfl ps_0 (by decide) (by decide) ⟨by show 10 * d + 1 ≤ 10 * (d + 1); omega, by show 8 + (2 + 11) + 128 * d ≤ 128 * (d + 1); omega⟩ ⟨by show 0 + mc ≤ mc; omega, by show 0 + ms ≤ ms; omega⟩ (Nat.le_of_ble_eq_true rfl) (by decide +kernel) dL_call_329 (by decide) dL_call_331 bc_m102 dL_call_333 rfl ⟨by show 0 + mc ≤ mc; omega, by show 0 + ms ≤ ms; omega⟩
    | 2, hj => exact e_caught (j := 2) (nr := 72) (hpc := 334) hj rfl dL_call_259 csL_72 hS rfl rfl ps_0 (by decide) (by decide) ⟨by show 10 * d + 1 ≤ 10 * (d + 1); omega, by show 8 + (2 + 11) + 128 * d ≤ 128 * (d + 1); omega⟩ ⟨by show 0 + mc ≤ mc; omega, by show 0 + ms ≤ ms; omega⟩ (Nat.le_of_ble_eq_true rfl) (by decide +kernel) dL_call_334 (by decide) dL_call_336 bc_m103 dL_call_338 rfl ⟨by show 0 + mc ≤ mc; omega, by show 0 + ms ≤ ms; omega⟩
    | 3, hj => exact e_caught (j := 3) (nr := 99) (hpc := 339) hj rfl dL_call_259 csL_72 hS rfl rfl ps_0 (by decide) (by decide) ⟨by show 10 * d + 1 ≤ 10 * (d + 1); omega, by show 8 + (2 + 11) + 128 * d ≤ 128 * (d + 1); omega⟩ ⟨by show 0 + mc ≤ mc; omega, by show 0 + ms ≤ ms; omega⟩ (Nat.le_of_ble_eq_true rfl) (by decide +kernel) dL_call_339 (by decide) dL_call_341 bc_m104 dL_call_343 rfl ⟨by show 0 + mc ≤ mc; omega, by show 0 + ms ≤ ms; omega⟩
    | 4, hj => exact e_caught (j := 4) (nr := 126) (hpc := 344) hj rfl dL_call_259 csL_72 hS rfl rfl ps_0 (by decide) (by decide) ⟨by show 10 * d + 1 ≤ 10 * (d + 1); omega, by show 8 + (2 + 11) + 128 * d ≤ 128 * (d + 1); omega⟩ ⟨by show 0 + mc ≤ mc; omega, by show 0 + ms ≤ ms; omega⟩ (Nat.le_of_ble_eq_true rfl) (by decide +kernel) dL_call_344 (by decide) dL_call_346 bc_m105 dL_call_348 rfl ⟨by show 0 + mc ≤ mc; omega, by show 0 + ms ≤ ms; omega⟩
    | z + 5, h => exact absurd h (by omega)
theorem cl_matched {l : Launch} (hf : l.stackTraces = false) {M M' : pmM} {d mc ms : Nat} {a b c v : Int32} {res : pmRes} (hS : Sp l kX3_matched 64 d mc ms [.ref 0, .int a] M res M') (hr : clR v res) : SpH l kL_call 64 (d + 1) mc ms [.ref 0, .int (nI 19), .int a, .int b, .int c] M (.inl (some (.int v))) M' := by
  refine sph_of hf (by decide +kernel) (Nat.le_of_ble_eq_true rfl) (by intro v hv; simp at hv; rcases hv with rfl | rfl | rfl | rfl | rfl <;> rfl) ?_
  refine e_iload_1 dL_call_0 rfl ?_
  refine e_swT dL_call_1 (o := 262) (by decide +kernel) (by decide +kernel) (show ((1 : Nat) : Int) + 262 = ((263 : Nat) : Int) by decide) ?_
  refine e_aload_0 dL_call_263 rfl ?_
  refine e_iload_2 dL_call_264 rfl ?_
  rcases hr with rfl | ⟨j, hj, rfl, rfl⟩
  · refine e_callV dL_call_265 rfl csL_75 hS rfl rfl ps_0 (by decide) (by decide) ⟨by show 10 * d + 1 ≤ 10 * (d + 1); omega, by show 8 + (3 + 11) + 128 * d ≤ 128 * (d + 1); omega⟩ ⟨by show 0 + mc ≤ mc; omega, by show 0 + ms ≤ ms; omega⟩ rfl rfl (Nat.le_of_ble_eq_true rfl) ?_
    exact e_iret dL_call_268 rfl rfl (by show 0 + mc ≤ mc; omega) (by show 0 + ms ≤ ms; omega) rfl rfl
  · match j, hj with
    | 0, hj => exact e_caught (j := 0) (nr := 19) (hpc := 324) hj rfl dL_call_265 csL_75 hS rfl rfl ps_0 (by decide) (by decide) ⟨by show 10 * d + 1 ≤ 10 * (d + 1); omega, by show 8 + (3 + 11) + 128 * d ≤ 128 * (d + 1); omega⟩ ⟨by show 0 + mc ≤ mc; omega, by show 0 + ms ≤ ms; omega⟩ (Nat.le_of_ble_eq_true rfl) (by decide +kernel) dL_call_324 (by decide) dL_call_326 bc_m101 dL_call_328 rfl ⟨by show 0 + mc ≤ mc; omega, by show 0 + ms ≤ ms; omega⟩
    | 1, hj => exact e_caught (j := 1) (nr := 46) (hpc := 329) hj rfl dL_call_265 csL_75 hS rfl rfl ps_0 (by decide) (by decide) ⟨by show 10 * d + 1 ≤ 10 * (d + 1); omega, by show 8 + (3 + 11) + 128 * d ≤ 128 * (d + 1); omega⟩ ⟨by show 0 + mc ≤ mc; omega, by show 0 + ms ≤ ms; omega⟩ (Nat.le_of_ble_eq_true rfl) (by decide +kernel) dL_call_329 (by decide) dL_call_331 bc_m102 dL_call_333 rfl ⟨by show 0 + mc ≤ mc; omega, by show 0 + ms ≤ ms; omega⟩
    | 2, hj => exact e_caught (j := 2) (nr := 73) (hpc := 334) hj rfl dL_call_265 csL_75 hS rfl rfl ps_0 (by decide) (by decide) ⟨by show 10 * d + 1 ≤ 10 * (d + 1); omega, by show 8 + (3 + 11) + 128 * d ≤ 128 * (d + 1); omega⟩ ⟨by show 0 + mc ≤ mc; omega, by show 0 + ms ≤ ms; omega⟩ (Nat.le_of_ble_eq_true rfl) (by decide +kernel) dL_call_334 (by decide) dL_call_336 bc_m103 dL_call_338 rfl ⟨by show 0 + mc ≤ mc; omega, by show 0 + ms ≤ ms; omega⟩
    | 3, hj => exact e_caught (j := 3) (nr := 100) (hpc := 339) hj rfl dL_call_265 csL_75 hS rfl rfl ps_0 (by decide) (by decide) ⟨by show 10 * d + 1 ≤ 10 * (d + 1); omega, by show 8 + (3 + 11) + 128 * d ≤ 128 * (d + 1); omega⟩ ⟨by show 0 + mc ≤ mc; omega, by show 0 + ms ≤ ms; omega⟩ (Nat.le_of_ble_eq_true rfl) (by decide +kernel) dL_call_339 (by decide) dL_call_341 bc_m104 dL_call_343 rfl ⟨by show 0 + mc ≤ mc; omega, by show 0 + ms ≤ ms; omega⟩
    | 4, hj => exact e_caught (j := 4) (nr := 127) (hpc := 344) hj rfl dL_call_265 csL_75 hS rfl rfl ps_0 (by decide) (by decide) ⟨by show 10 * d + 1 ≤ 10 * (d + 1); omega, by show 8 + (3 + 11) + 128 * d ≤ 128 * (d + 1); omega⟩ ⟨by show 0 + mc ≤ mc; omega, by show 0 + ms ≤ ms; omega⟩ (Nat.le_of_ble_eq_true rfl) (by decide +kernel) dL_call_344 (by decide) dL_call_346 bc_m105 dL_call_348 rfl ⟨by show 0 + mc ≤ mc; omega, by show 0 + ms ≤ ms; omega⟩
    | z + 5, h => exact absurd h (by omega)
theorem cl_decided {l : Launch} (hf : l.stackTraces = false) {M M' : pmM} {d mc ms : Nat} {a b c v : Int32} {res : pmRes} (hS : Sp l kX3_decided 64 d mc ms [.ref 0, .int a] M res M') (hr : clR v res) : SpH l kL_call 64 (d + 1) mc ms [.ref 0, .int (nI 20), .int a, .int b, .int c] M (.inl (some (.int v))) M' := by
  refine sph_of hf (by decide +kernel) (Nat.le_of_ble_eq_true rfl) (by intro v hv; simp at hv; rcases hv with rfl | rfl | rfl | rfl | rfl <;> rfl) ?_
  refine e_iload_1 dL_call_0 rfl ?_
  refine e_swT dL_call_1 (o := 268) (by decide +kernel) (by decide +kernel) (show ((1 : Nat) : Int) + 268 = ((269 : Nat) : Int) by decide) ?_
  refine e_aload_0 dL_call_269 rfl ?_
  refine e_iload_2 dL_call_270 rfl ?_
  rcases hr with rfl | ⟨j, hj, rfl, rfl⟩
  · refine e_callV dL_call_271 rfl csL_78 hS rfl rfl ps_0 (by decide) (by decide) ⟨by show 10 * d + 1 ≤ 10 * (d + 1); omega, by show 8 + (2 + 11) + 128 * d ≤ 128 * (d + 1); omega⟩ ⟨by show 0 + mc ≤ mc; omega, by show 0 + ms ≤ ms; omega⟩ rfl rfl (Nat.le_of_ble_eq_true rfl) ?_
    exact e_iret dL_call_274 rfl rfl (by show 0 + mc ≤ mc; omega) (by show 0 + ms ≤ ms; omega) rfl rfl
  · match j, hj with
    | 0, hj => exact e_caught (j := 0) (nr := 20) (hpc := 324) hj rfl dL_call_271 csL_78 hS rfl rfl ps_0 (by decide) (by decide) ⟨by show 10 * d + 1 ≤ 10 * (d + 1); omega, by show 8 + (2 + 11) + 128 * d ≤ 128 * (d + 1); omega⟩ ⟨by show 0 + mc ≤ mc; omega, by show 0 + ms ≤ ms; omega⟩ (Nat.le_of_ble_eq_true rfl) (by decide +kernel) dL_call_324 (by decide) dL_call_326 bc_m101 dL_call_328 rfl ⟨by show 0 + mc ≤ mc; omega, by show 0 + ms ≤ ms; omega⟩
    | 1, hj => exact e_caught (j := 1) (nr := 47) (hpc := 329) hj rfl dL_call_271 csL_78 hS rfl rfl ps_0 (by decide) (by decide) ⟨by show 10 * d + 1 ≤ 10 * (d + 1); omega, by show 8 + (2 + 11) + 128 * d ≤ 128 * (d + 1); omega⟩ ⟨by show 0 + mc ≤ mc; omega, by show 0 + ms ≤ ms; omega⟩ (Nat.le_of_ble_eq_true rfl) (by decide +kernel) dL_call_329 (by decide) dL_call_331 bc_m102 dL_call_333 rfl ⟨by show 0 + mc ≤ mc; omega, by show 0 + ms ≤ ms; omega⟩
    | 2, hj => exact e_caught (j := 2) (nr := 74) (hpc := 334) hj rfl dL_call_271 csL_78 hS rfl rfl ps_0 (by decide) (by decide) ⟨by show 10 * d + 1 ≤ 10 * (d + 1); omega, by show 8 + (2 + 11) + 128 * d ≤ 128 * (d + 1); omega⟩ ⟨by show 0 + mc ≤ mc; omega, by show 0 + ms ≤ ms; omega⟩ (Nat.le_of_ble_eq_true rfl) (by decide +kernel) dL_call_334 (by decide) dL_call_336 bc_m103 dL_call_338 rfl ⟨by show 0 + mc ≤ mc; omega, by show 0 + ms ≤ ms; omega⟩
    | 3, hj => exact e_caught (j := 3) (nr := 101) (hpc := 339) hj rfl dL_call_271 csL_78 hS rfl rfl ps_0 (by decide) (by decide) ⟨by show 10 * d + 1 ≤ 10 * (d + 1); omega, by show 8 + (2 + 11) + 128 * d ≤ 128 * (d + 1); omega⟩ ⟨by show 0 + mc ≤ mc; omega, by show 0 + ms ≤ ms; omega⟩ (Nat.le_of_ble_eq_true rfl) (by decide +kernel) dL_call_339 (by decide) dL_call_341 bc_m104 dL_call_343 rfl ⟨by show 0 + mc ≤ mc; omega, by show 0 + ms ≤ ms; omega⟩
    | 4, hj => exact e_caught (j := 4) (nr := 128) (hpc := 344) hj rfl dL_call_271 csL_78 hS rfl rfl ps_0 (by decide) (by decide) ⟨by show 10 * d + 1 ≤ 10 * (d + 1); omega, by show 8 + (2 + 11) + 128 * d ≤ 128 * (d + 1); omega⟩ ⟨by show 0 + mc ≤ mc; omega, by show 0 + ms ≤ ms; omega⟩ (Nat.le_of_ble_eq_true rfl) (by decide +kernel) dL_call_344 (by decide) dL_call_346 bc_m105 dL_call_348 rfl ⟨by show 0 + mc ≤ mc; omega, by show 0 + ms ≤ ms; omega⟩
    | z + 5, h => exact absurd h (by omega)
theorem cl_decidedBySamples {l : Launch} (hf : l.stackTraces = false) {M M' : pmM} {d mc ms : Nat} {a b c v : Int32} {res : pmRes} (hS : Sp l kX3_decidedBySamples 64 d mc ms [.ref 0, .int a] M res M') (hr : clR v res) : SpH l kL_call 64 (d + 1) mc ms [.ref 0, .int (nI 21), .int a, .int b, .int c] M (.inl (some (.int v))) M' := by
  refine sph_of hf (by decide +kernel) (Nat.le_of_ble_eq_true rfl) (by intro v hv; simp at hv; rcases hv with rfl | rfl | rfl | rfl | rfl <;> rfl) ?_
  refine e_iload_1 dL_call_0 rfl ?_
  refine e_swT dL_call_1 (o := 274) (by decide +kernel) (by decide +kernel) (show ((1 : Nat) : Int) + 274 = ((275 : Nat) : Int) by decide) ?_
  refine e_aload_0 dL_call_275 rfl ?_
  refine e_iload_2 dL_call_276 rfl ?_
  rcases hr with rfl | ⟨j, hj, rfl, rfl⟩
  · refine e_callV dL_call_277 rfl csL_81 hS rfl rfl ps_0 (by decide) (by decide) ⟨by show 10 * d + 1 ≤ 10 * (d + 1); omega, by show 8 + (3 + 11) + 128 * d ≤ 128 * (d + 1); omega⟩ ⟨by show 0 + mc ≤ mc; omega, by show 0 + ms ≤ ms; omega⟩ rfl rfl (Nat.le_of_ble_eq_true rfl) ?_
    exact e_iret dL_call_280 rfl rfl (by show 0 + mc ≤ mc; omega) (by show 0 + ms ≤ ms; omega) rfl rfl
  · match j, hj with
    | 0, hj => exact e_caught (j := 0) (nr := 21) (hpc := 324) hj rfl dL_call_277 csL_81 hS rfl rfl ps_0 (by decide) (by decide) ⟨by show 10 * d + 1 ≤ 10 * (d + 1); omega, by show 8 + (3 + 11) + 128 * d ≤ 128 * (d + 1); omega⟩ ⟨by show 0 + mc ≤ mc; omega, by show 0 + ms ≤ ms; omega⟩ (Nat.le_of_ble_eq_true rfl) (by decide +kernel) dL_call_324 (by decide) dL_call_326 bc_m101 dL_call_328 rfl ⟨by show 0 + mc ≤ mc; omega, by show 0 + ms ≤ ms; omega⟩
    | 1, hj => exact e_caught (j := 1) (nr := 48) (hpc := 329) hj rfl dL_call_277 csL_81 hS rfl rfl ps_0 (by decide) (by decide) ⟨by show 10 * d + 1 ≤ 10 * (d + 1); omega, by show 8 + (3 + 11) + 128 * d ≤ 128 * (d + 1); omega⟩ ⟨by show 0 + mc ≤ mc; omega, by show 0 + ms ≤ ms; omega⟩ (Nat.le_of_ble_eq_true rfl) (by decide +kernel) dL_call_329 (by decide) dL_call_331 bc_m102 dL_call_333 rfl ⟨by show 0 + mc ≤ mc; omega, by show 0 + ms ≤ ms; omega⟩
    | 2, hj => exact e_caught (j := 2) (nr := 75) (hpc := 334) hj rfl dL_call_277 csL_81 hS rfl rfl ps_0 (by decide) (by decide) ⟨by show 10 * d + 1 ≤ 10 * (d + 1); omega, by show 8 + (3 + 11) + 128 * d ≤ 128 * (d + 1); omega⟩ ⟨by show 0 + mc ≤ mc; omega, by show 0 + ms ≤ ms; omega⟩ (Nat.le_of_ble_eq_true rfl) (by decide +kernel) dL_call_334 (by decide) dL_call_336 bc_m103 dL_call_338 rfl ⟨by show 0 + mc ≤ mc; omega, by show 0 + ms ≤ ms; omega⟩
    | 3, hj => exact e_caught (j := 3) (nr := 102) (hpc := 339) hj rfl dL_call_277 csL_81 hS rfl rfl ps_0 (by decide) (by decide) ⟨by show 10 * d + 1 ≤ 10 * (d + 1); omega, by show 8 + (3 + 11) + 128 * d ≤ 128 * (d + 1); omega⟩ ⟨by show 0 + mc ≤ mc; omega, by show 0 + ms ≤ ms; omega⟩ (Nat.le_of_ble_eq_true rfl) (by decide +kernel) dL_call_339 (by decide) dL_call_341 bc_m104 dL_call_343 rfl ⟨by show 0 + mc ≤ mc; omega, by show 0 + ms ≤ ms; omega⟩
    | 4, hj => exact e_caught (j := 4) (nr := 129) (hpc := 344) hj rfl dL_call_277 csL_81 hS rfl rfl ps_0 (by decide) (by decide) ⟨by show 10 * d + 1 ≤ 10 * (d + 1); omega, by show 8 + (3 + 11) + 128 * d ≤ 128 * (d + 1); omega⟩ ⟨by show 0 + mc ≤ mc; omega, by show 0 + ms ≤ ms; omega⟩ (Nat.le_of_ble_eq_true rfl) (by decide +kernel) dL_call_344 (by decide) dL_call_346 bc_m105 dL_call_348 rfl ⟨by show 0 + mc ≤ mc; omega, by show 0 + ms ≤ ms; omega⟩
    | z + 5, h => exact absurd h (by omega)
theorem cl_isShadowed {l : Launch} (hf : l.stackTraces = false) {M M' : pmM} {d mc ms : Nat} {a b c v : Int32} {res : pmRes} (hS : Sp l kX3_isShadowed 64 d mc ms [.ref 0, .int a] M res M') (hr : clR v res) (hv : ∀ x, res = .inl (some (.int x)) → x = nI 0 ∨ x = nI 1) : SpH l kL_call 64 (d + 1) mc ms [.ref 0, .int (nI 22), .int a, .int b, .int c] M (.inl (some (.int v))) M' := by
  refine sph_of hf (by decide +kernel) (Nat.le_of_ble_eq_true rfl) (by intro v hv; simp at hv; rcases hv with rfl | rfl | rfl | rfl | rfl <;> rfl) ?_
  refine e_iload_1 dL_call_0 rfl ?_
  refine e_swT dL_call_1 (o := 280) (by decide +kernel) (by decide +kernel) (show ((1 : Nat) : Int) + 280 = ((281 : Nat) : Int) by decide) ?_
  refine e_aload_0 dL_call_281 rfl ?_
  refine e_iload_2 dL_call_282 rfl ?_
  rcases hr with rfl | ⟨j, hj, rfl, rfl⟩
  · refine e_callV dL_call_283 rfl csL_84 hS rfl rfl ps_0 (by decide) (by decide) ⟨by show 10 * d + 1 ≤ 10 * (d + 1); omega, by show 8 + (2 + 11) + 128 * d ≤ 128 * (d + 1); omega⟩ ⟨by show 0 + mc ≤ mc; omega, by show 0 + ms ≤ ms; omega⟩ rfl rfl (Nat.le_of_ble_eq_true rfl) ?_
    rcases hv _ rfl with rfl | rfl
    · refine e_if_eq_t (tgt := 293) dL_call_286 (by decide) (by decide) ?_
      refine e_iconst (v := nI 0) dL_call_293 rfl ic_0 ?_
      exact e_iret dL_call_294 rfl rfl (by show 0 + mc ≤ mc; omega) (by show 0 + ms ≤ ms; omega) rfl rfl
    · refine e_if_eq_f dL_call_286 rfl ⟨293, by decide⟩ (by decide) ?_
      refine e_iconst (v := nI 1) dL_call_289 rfl ic_1 ?_
      refine e_goto (tgt := 294) dL_call_290 (by decide) ?_
      exact e_iret dL_call_294 rfl rfl (by show 0 + mc ≤ mc; omega) (by show 0 + ms ≤ ms; omega) rfl rfl
  · match j, hj with
    | 0, hj => exact e_caught (j := 0) (nr := 22) (hpc := 324) hj rfl dL_call_283 csL_84 hS rfl rfl ps_0 (by decide) (by decide) ⟨by show 10 * d + 1 ≤ 10 * (d + 1); omega, by show 8 + (2 + 11) + 128 * d ≤ 128 * (d + 1); omega⟩ ⟨by show 0 + mc ≤ mc; omega, by show 0 + ms ≤ ms; omega⟩ (Nat.le_of_ble_eq_true rfl) (by decide +kernel) dL_call_324 (by decide) dL_call_326 bc_m101 dL_call_328 rfl ⟨by show 0 + mc ≤ mc; omega, by show 0 + ms ≤ ms; omega⟩
    | 1, hj => exact e_caught (j := 1) (nr := 49) (hpc := 329) hj rfl dL_call_283 csL_84 hS rfl rfl ps_0 (by decide) (by decide) ⟨by show 10 * d + 1 ≤ 10 * (d + 1); omega, by show 8 + (2 + 11) + 128 * d ≤ 128 * (d + 1); omega⟩ ⟨by show 0 + mc ≤ mc; omega, by show 0 + ms ≤ ms; omega⟩ (Nat.le_of_ble_eq_true rfl) (by decide +kernel) dL_call_329 (by decide) dL_call_331 bc_m102 dL_call_333 rfl ⟨by show 0 + mc ≤ mc; omega, by show 0 + ms ≤ ms; omega⟩
    | 2, hj => exact e_caught (j := 2) (nr := 76) (hpc := 334) hj rfl dL_call_283 csL_84 hS rfl rfl ps_0 (by decide) (by decide) ⟨by show 10 * d + 1 ≤ 10 * (d + 1); omega, by show 8 + (2 + 11) + 128 * d ≤ 128 * (d + 1); omega⟩ ⟨by show 0 + mc ≤ mc; omega, by show 0 + ms ≤ ms; omega⟩ (Nat.le_of_ble_eq_true rfl) (by decide +kernel) dL_call_334 (by decide) dL_call_336 bc_m103 dL_call_338 rfl ⟨by show 0 + mc ≤ mc; omega, by show 0 + ms ≤ ms; omega⟩
    | 3, hj => exact e_caught (j := 3) (nr := 103) (hpc := 339) hj rfl dL_call_283 csL_84 hS rfl rfl ps_0 (by decide) (by decide) ⟨by show 10 * d + 1 ≤ 10 * (d + 1); omega, by show 8 + (2 + 11) + 128 * d ≤ 128 * (d + 1); omega⟩ ⟨by show 0 + mc ≤ mc; omega, by show 0 + ms ≤ ms; omega⟩ (Nat.le_of_ble_eq_true rfl) (by decide +kernel) dL_call_339 (by decide) dL_call_341 bc_m104 dL_call_343 rfl ⟨by show 0 + mc ≤ mc; omega, by show 0 + ms ≤ ms; omega⟩
    | 4, hj => exact e_caught (j := 4) (nr := 130) (hpc := 344) hj rfl dL_call_283 csL_84 hS rfl rfl ps_0 (by decide) (by decide) ⟨by show 10 * d + 1 ≤ 10 * (d + 1); omega, by show 8 + (2 + 11) + 128 * d ≤ 128 * (d + 1); omega⟩ ⟨by show 0 + mc ≤ mc; omega, by show 0 + ms ≤ ms; omega⟩ (Nat.le_of_ble_eq_true rfl) (by decide +kernel) dL_call_344 (by decide) dL_call_346 bc_m105 dL_call_348 rfl ⟨by show 0 + mc ≤ mc; omega, by show 0 + ms ≤ ms; omega⟩
    | z + 5, h => exact absurd h (by omega)
theorem cl_mainShadow {l : Launch} (hf : l.stackTraces = false) {M M' : pmM} {d mc ms : Nat} {a b c v : Int32} {res : pmRes} (hS : Sp l kX3_mainShadow 64 d mc ms [.ref 0, .int a] M res M') (hr : clR v res) : SpH l kL_call 64 (d + 1) mc ms [.ref 0, .int (nI 23), .int a, .int b, .int c] M (.inl (some (.int v))) M' := by
  refine sph_of hf (by decide +kernel) (Nat.le_of_ble_eq_true rfl) (by intro v hv; simp at hv; rcases hv with rfl | rfl | rfl | rfl | rfl <;> rfl) ?_
  refine e_iload_1 dL_call_0 rfl ?_
  refine e_swT dL_call_1 (o := 294) (by decide +kernel) (by decide +kernel) (show ((1 : Nat) : Int) + 294 = ((295 : Nat) : Int) by decide) ?_
  refine e_aload_0 dL_call_295 rfl ?_
  refine e_iload_2 dL_call_296 rfl ?_
  rcases hr with rfl | ⟨j, hj, rfl, rfl⟩
  · refine e_callV dL_call_297 rfl csL_87 hS rfl rfl ps_0 (by decide) (by decide) ⟨by show 10 * d + 1 ≤ 10 * (d + 1); omega, by show 8 + (7 + 11) + 128 * d ≤ 128 * (d + 1); omega⟩ ⟨by show 0 + mc ≤ mc; omega, by show 0 + ms ≤ ms; omega⟩ rfl rfl (Nat.le_of_ble_eq_true rfl) ?_
    exact e_iret dL_call_300 rfl rfl (by show 0 + mc ≤ mc; omega) (by show 0 + ms ≤ ms; omega) rfl rfl
  · match j, hj with
    | 0, hj => exact e_caught (j := 0) (nr := 23) (hpc := 324) hj rfl dL_call_297 csL_87 hS rfl rfl ps_0 (by decide) (by decide) ⟨by show 10 * d + 1 ≤ 10 * (d + 1); omega, by show 8 + (7 + 11) + 128 * d ≤ 128 * (d + 1); omega⟩ ⟨by show 0 + mc ≤ mc; omega, by show 0 + ms ≤ ms; omega⟩ (Nat.le_of_ble_eq_true rfl) (by decide +kernel) dL_call_324 (by decide) dL_call_326 bc_m101 dL_call_328 rfl ⟨by show 0 + mc ≤ mc; omega, by show 0 + ms ≤ ms; omega⟩
    | 1, hj => exact e_caught (j := 1) (nr := 50) (hpc := 329) hj rfl dL_call_297 csL_87 hS rfl rfl ps_0 (by decide) (by decide) ⟨by show 10 * d + 1 ≤ 10 * (d + 1); omega, by show 8 + (7 + 11) + 128 * d ≤ 128 * (d + 1); omega⟩ ⟨by show 0 + mc ≤ mc; omega, by show 0 + ms ≤ ms; omega⟩ (Nat.le_of_ble_eq_true rfl) (by decide +kernel) dL_call_329 (by decide) dL_call_331 bc_m102 dL_call_333 rfl ⟨by show 0 + mc ≤ mc; omega, by show 0 + ms ≤ ms; omega⟩
    | 2, hj => exact e_caught (j := 2) (nr := 77) (hpc := 334) hj rfl dL_call_297 csL_87 hS rfl rfl ps_0 (by decide) (by decide) ⟨by show 10 * d + 1 ≤ 10 * (d + 1); omega, by show 8 + (7 + 11) + 128 * d ≤ 128 * (d + 1); omega⟩ ⟨by show 0 + mc ≤ mc; omega, by show 0 + ms ≤ ms; omega⟩ (Nat.le_of_ble_eq_true rfl) (by decide +kernel) dL_call_334 (by decide) dL_call_336 bc_m103 dL_call_338 rfl ⟨by show 0 + mc ≤ mc; omega, by show 0 + ms ≤ ms; omega⟩
    | 3, hj => exact e_caught (j := 3) (nr := 104) (hpc := 339) hj rfl dL_call_297 csL_87 hS rfl rfl ps_0 (by decide) (by decide) ⟨by show 10 * d + 1 ≤ 10 * (d + 1); omega, by show 8 + (7 + 11) + 128 * d ≤ 128 * (d + 1); omega⟩ ⟨by show 0 + mc ≤ mc; omega, by show 0 + ms ≤ ms; omega⟩ (Nat.le_of_ble_eq_true rfl) (by decide +kernel) dL_call_339 (by decide) dL_call_341 bc_m104 dL_call_343 rfl ⟨by show 0 + mc ≤ mc; omega, by show 0 + ms ≤ ms; omega⟩
    | 4, hj => exact e_caught (j := 4) (nr := 131) (hpc := 344) hj rfl dL_call_297 csL_87 hS rfl rfl ps_0 (by decide) (by decide) ⟨by show 10 * d + 1 ≤ 10 * (d + 1); omega, by show 8 + (7 + 11) + 128 * d ≤ 128 * (d + 1); omega⟩ ⟨by show 0 + mc ≤ mc; omega, by show 0 + ms ≤ ms; omega⟩ (Nat.le_of_ble_eq_true rfl) (by decide +kernel) dL_call_344 (by decide) dL_call_346 bc_m105 dL_call_348 rfl ⟨by show 0 + mc ≤ mc; omega, by show 0 + ms ≤ ms; omega⟩
    | z + 5, h => exact absurd h (by omega)
theorem cl_changedByMove {l : Launch} (hf : l.stackTraces = false) {M M' : pmM} {d mc ms : Nat} {a b c v : Int32} {res : pmRes} (hS : Sp l kX3_changedByMove 64 d mc ms [.ref 0, .int a, .int b] M res M') (hr : clR v res) : SpH l kL_call 64 (d + 1) mc ms [.ref 0, .int (nI 24), .int a, .int b, .int c] M (.inl (some (.int v))) M' := by
  refine sph_of hf (by decide +kernel) (Nat.le_of_ble_eq_true rfl) (by intro v hv; simp at hv; rcases hv with rfl | rfl | rfl | rfl | rfl <;> rfl) ?_
  refine e_iload_1 dL_call_0 rfl ?_
  refine e_swT dL_call_1 (o := 300) (by decide +kernel) (by decide +kernel) (show ((1 : Nat) : Int) + 300 = ((301 : Nat) : Int) by decide) ?_
  refine e_aload_0 dL_call_301 rfl ?_
  refine e_iload_2 dL_call_302 rfl ?_
  refine e_iload_3 dL_call_303 rfl ?_
  rcases hr with rfl | ⟨j, hj, rfl, rfl⟩
  · refine e_callV dL_call_304 rfl csL_90 hS rfl rfl ps_0 (by decide) (by decide) ⟨by show 10 * d + 1 ≤ 10 * (d + 1); omega, by show 8 + (4 + 11) + 128 * d ≤ 128 * (d + 1); omega⟩ ⟨by show 0 + mc ≤ mc; omega, by show 0 + ms ≤ ms; omega⟩ rfl rfl (Nat.le_of_ble_eq_true rfl) ?_
    exact e_iret dL_call_307 rfl rfl (by show 0 + mc ≤ mc; omega) (by show 0 + ms ≤ ms; omega) rfl rfl
  · match j, hj with
    | 0, hj => exact e_caught (j := 0) (nr := 24) (hpc := 324) hj rfl dL_call_304 csL_90 hS rfl rfl ps_0 (by decide) (by decide) ⟨by show 10 * d + 1 ≤ 10 * (d + 1); omega, by show 8 + (4 + 11) + 128 * d ≤ 128 * (d + 1); omega⟩ ⟨by show 0 + mc ≤ mc; omega, by show 0 + ms ≤ ms; omega⟩ (Nat.le_of_ble_eq_true rfl) (by decide +kernel) dL_call_324 (by decide) dL_call_326 bc_m101 dL_call_328 rfl ⟨by show 0 + mc ≤ mc; omega, by show 0 + ms ≤ ms; omega⟩
    | 1, hj => exact e_caught (j := 1) (nr := 51) (hpc := 329) hj rfl dL_call_304 csL_90 hS rfl rfl ps_0 (by decide) (by decide) ⟨by show 10 * d + 1 ≤ 10 * (d + 1); omega, by show 8 + (4 + 11) + 128 * d ≤ 128 * (d + 1); omega⟩ ⟨by show 0 + mc ≤ mc; omega, by show 0 + ms ≤ ms; omega⟩ (Nat.le_of_ble_eq_true rfl) (by decide +kernel) dL_call_329 (by decide) dL_call_331 bc_m102 dL_call_333 rfl ⟨by show 0 + mc ≤ mc; omega, by show 0 + ms ≤ ms; omega⟩
    | 2, hj => exact e_caught (j := 2) (nr := 78) (hpc := 334) hj rfl dL_call_304 csL_90 hS rfl rfl ps_0 (by decide) (by decide) ⟨by show 10 * d + 1 ≤ 10 * (d + 1); omega, by show 8 + (4 + 11) + 128 * d ≤ 128 * (d + 1); omega⟩ ⟨by show 0 + mc ≤ mc; omega, by show 0 + ms ≤ ms; omega⟩ (Nat.le_of_ble_eq_true rfl) (by decide +kernel) dL_call_334 (by decide) dL_call_336 bc_m103 dL_call_338 rfl ⟨by show 0 + mc ≤ mc; omega, by show 0 + ms ≤ ms; omega⟩
    | 3, hj => exact e_caught (j := 3) (nr := 105) (hpc := 339) hj rfl dL_call_304 csL_90 hS rfl rfl ps_0 (by decide) (by decide) ⟨by show 10 * d + 1 ≤ 10 * (d + 1); omega, by show 8 + (4 + 11) + 128 * d ≤ 128 * (d + 1); omega⟩ ⟨by show 0 + mc ≤ mc; omega, by show 0 + ms ≤ ms; omega⟩ (Nat.le_of_ble_eq_true rfl) (by decide +kernel) dL_call_339 (by decide) dL_call_341 bc_m104 dL_call_343 rfl ⟨by show 0 + mc ≤ mc; omega, by show 0 + ms ≤ ms; omega⟩
    | 4, hj => exact e_caught (j := 4) (nr := 132) (hpc := 344) hj rfl dL_call_304 csL_90 hS rfl rfl ps_0 (by decide) (by decide) ⟨by show 10 * d + 1 ≤ 10 * (d + 1); omega, by show 8 + (4 + 11) + 128 * d ≤ 128 * (d + 1); omega⟩ ⟨by show 0 + mc ≤ mc; omega, by show 0 + ms ≤ ms; omega⟩ (Nat.le_of_ble_eq_true rfl) (by decide +kernel) dL_call_344 (by decide) dL_call_346 bc_m105 dL_call_348 rfl ⟨by show 0 + mc ≤ mc; omega, by show 0 + ms ≤ ms; omega⟩
    | z + 5, h => exact absurd h (by omega)
theorem cl_move {l : Launch} (hf : l.stackTraces = false) {M M' : pmM} {d mc ms : Nat} {a b c v : Int32} {res : pmRes} (hS : Sp l kX3_move 64 d mc ms [.ref 0, .int a, .int b] M res M') (hr : clR v res) : SpH l kL_call 64 (d + 1) mc ms [.ref 0, .int (nI 25), .int a, .int b, .int c] M (.inl (some (.int v))) M' := by
  refine sph_of hf (by decide +kernel) (Nat.le_of_ble_eq_true rfl) (by intro v hv; simp at hv; rcases hv with rfl | rfl | rfl | rfl | rfl <;> rfl) ?_
  refine e_iload_1 dL_call_0 rfl ?_
  refine e_swT dL_call_1 (o := 307) (by decide +kernel) (by decide +kernel) (show ((1 : Nat) : Int) + 307 = ((308 : Nat) : Int) by decide) ?_
  refine e_aload_0 dL_call_308 rfl ?_
  refine e_iload_2 dL_call_309 rfl ?_
  refine e_iload_3 dL_call_310 rfl ?_
  rcases hr with rfl | ⟨j, hj, rfl, rfl⟩
  · refine e_callV dL_call_311 rfl csL_93 hS rfl rfl ps_0 (by decide) (by decide) ⟨by show 10 * d + 1 ≤ 10 * (d + 1); omega, by show 8 + (4 + 11) + 128 * d ≤ 128 * (d + 1); omega⟩ ⟨by show 0 + mc ≤ mc; omega, by show 0 + ms ≤ ms; omega⟩ rfl rfl (Nat.le_of_ble_eq_true rfl) ?_
    exact e_iret dL_call_314 rfl rfl (by show 0 + mc ≤ mc; omega) (by show 0 + ms ≤ ms; omega) rfl rfl
  · match j, hj with
    | 0, hj => exact e_caught (j := 0) (nr := 25) (hpc := 324) hj rfl dL_call_311 csL_93 hS rfl rfl ps_0 (by decide) (by decide) ⟨by show 10 * d + 1 ≤ 10 * (d + 1); omega, by show 8 + (4 + 11) + 128 * d ≤ 128 * (d + 1); omega⟩ ⟨by show 0 + mc ≤ mc; omega, by show 0 + ms ≤ ms; omega⟩ (Nat.le_of_ble_eq_true rfl) (by decide +kernel) dL_call_324 (by decide) dL_call_326 bc_m101 dL_call_328 rfl ⟨by show 0 + mc ≤ mc; omega, by show 0 + ms ≤ ms; omega⟩
    | 1, hj => exact e_caught (j := 1) (nr := 52) (hpc := 329) hj rfl dL_call_311 csL_93 hS rfl rfl ps_0 (by decide) (by decide) ⟨by show 10 * d + 1 ≤ 10 * (d + 1); omega, by show 8 + (4 + 11) + 128 * d ≤ 128 * (d + 1); omega⟩ ⟨by show 0 + mc ≤ mc; omega, by show 0 + ms ≤ ms; omega⟩ (Nat.le_of_ble_eq_true rfl) (by decide +kernel) dL_call_329 (by decide) dL_call_331 bc_m102 dL_call_333 rfl ⟨by show 0 + mc ≤ mc; omega, by show 0 + ms ≤ ms; omega⟩
    | 2, hj => exact e_caught (j := 2) (nr := 79) (hpc := 334) hj rfl dL_call_311 csL_93 hS rfl rfl ps_0 (by decide) (by decide) ⟨by show 10 * d + 1 ≤ 10 * (d + 1); omega, by show 8 + (4 + 11) + 128 * d ≤ 128 * (d + 1); omega⟩ ⟨by show 0 + mc ≤ mc; omega, by show 0 + ms ≤ ms; omega⟩ (Nat.le_of_ble_eq_true rfl) (by decide +kernel) dL_call_334 (by decide) dL_call_336 bc_m103 dL_call_338 rfl ⟨by show 0 + mc ≤ mc; omega, by show 0 + ms ≤ ms; omega⟩
    | 3, hj => exact e_caught (j := 3) (nr := 106) (hpc := 339) hj rfl dL_call_311 csL_93 hS rfl rfl ps_0 (by decide) (by decide) ⟨by show 10 * d + 1 ≤ 10 * (d + 1); omega, by show 8 + (4 + 11) + 128 * d ≤ 128 * (d + 1); omega⟩ ⟨by show 0 + mc ≤ mc; omega, by show 0 + ms ≤ ms; omega⟩ (Nat.le_of_ble_eq_true rfl) (by decide +kernel) dL_call_339 (by decide) dL_call_341 bc_m104 dL_call_343 rfl ⟨by show 0 + mc ≤ mc; omega, by show 0 + ms ≤ ms; omega⟩
    | 4, hj => exact e_caught (j := 4) (nr := 133) (hpc := 344) hj rfl dL_call_311 csL_93 hS rfl rfl ps_0 (by decide) (by decide) ⟨by show 10 * d + 1 ≤ 10 * (d + 1); omega, by show 8 + (4 + 11) + 128 * d ≤ 128 * (d + 1); omega⟩ ⟨by show 0 + mc ≤ mc; omega, by show 0 + ms ≤ ms; omega⟩ (Nat.le_of_ble_eq_true rfl) (by decide +kernel) dL_call_344 (by decide) dL_call_346 bc_m105 dL_call_348 rfl ⟨by show 0 + mc ≤ mc; omega, by show 0 + ms ≤ ms; omega⟩
    | z + 5, h => exact absurd h (by omega)
theorem cl_changedByRange {l : Launch} (hf : l.stackTraces = false) {M M' : pmM} {d mc ms : Nat} {a b c v : Int32} {res : pmRes} (hS : Sp l kX3_changedByRange 64 d mc ms [.ref 0, .int a, .int b, .int c] M res M') (hr : clR v res) : SpH l kL_call 64 (d + 1) mc ms [.ref 0, .int (nI 26), .int a, .int b, .int c] M (.inl (some (.int v))) M' := by
  refine sph_of hf (by decide +kernel) (Nat.le_of_ble_eq_true rfl) (by intro v hv; simp at hv; rcases hv with rfl | rfl | rfl | rfl | rfl <;> rfl) ?_
  refine e_iload_1 dL_call_0 rfl ?_
  refine e_swD dL_call_1 (Or.inr (by decide +kernel)) (show ((1 : Nat) : Int) + 314 = ((315 : Nat) : Int) by decide) ?_
  refine e_aload_0 dL_call_315 rfl ?_
  refine e_iload_2 dL_call_316 rfl ?_
  refine e_iload_3 dL_call_317 rfl ?_
  refine e_iload_4 dL_call_318 rfl ?_
  rcases hr with rfl | ⟨j, hj, rfl, rfl⟩
  · refine e_callV dL_call_320 rfl csL_96 hS rfl rfl ps_0 (by decide) (by decide) ⟨by show 10 * d + 1 ≤ 10 * (d + 1); omega, by show 8 + (7 + 11) + 128 * d ≤ 128 * (d + 1); omega⟩ ⟨by show 0 + mc ≤ mc; omega, by show 0 + ms ≤ ms; omega⟩ rfl rfl (Nat.le_of_ble_eq_true rfl) ?_
    exact e_iret dL_call_323 rfl rfl (by show 0 + mc ≤ mc; omega) (by show 0 + ms ≤ ms; omega) rfl rfl
  · match j, hj with
    | 0, hj => exact e_caught (j := 0) (nr := 26) (hpc := 324) hj rfl dL_call_320 csL_96 hS rfl rfl ps_0 (by decide) (by decide) ⟨by show 10 * d + 1 ≤ 10 * (d + 1); omega, by show 8 + (7 + 11) + 128 * d ≤ 128 * (d + 1); omega⟩ ⟨by show 0 + mc ≤ mc; omega, by show 0 + ms ≤ ms; omega⟩ (Nat.le_of_ble_eq_true rfl) (by decide +kernel) dL_call_324 (by decide) dL_call_326 bc_m101 dL_call_328 rfl ⟨by show 0 + mc ≤ mc; omega, by show 0 + ms ≤ ms; omega⟩
    | 1, hj => exact e_caught (j := 1) (nr := 53) (hpc := 329) hj rfl dL_call_320 csL_96 hS rfl rfl ps_0 (by decide) (by decide) ⟨by show 10 * d + 1 ≤ 10 * (d + 1); omega, by show 8 + (7 + 11) + 128 * d ≤ 128 * (d + 1); omega⟩ ⟨by show 0 + mc ≤ mc; omega, by show 0 + ms ≤ ms; omega⟩ (Nat.le_of_ble_eq_true rfl) (by decide +kernel) dL_call_329 (by decide) dL_call_331 bc_m102 dL_call_333 rfl ⟨by show 0 + mc ≤ mc; omega, by show 0 + ms ≤ ms; omega⟩
    | 2, hj => exact e_caught (j := 2) (nr := 80) (hpc := 334) hj rfl dL_call_320 csL_96 hS rfl rfl ps_0 (by decide) (by decide) ⟨by show 10 * d + 1 ≤ 10 * (d + 1); omega, by show 8 + (7 + 11) + 128 * d ≤ 128 * (d + 1); omega⟩ ⟨by show 0 + mc ≤ mc; omega, by show 0 + ms ≤ ms; omega⟩ (Nat.le_of_ble_eq_true rfl) (by decide +kernel) dL_call_334 (by decide) dL_call_336 bc_m103 dL_call_338 rfl ⟨by show 0 + mc ≤ mc; omega, by show 0 + ms ≤ ms; omega⟩
    | 3, hj => exact e_caught (j := 3) (nr := 107) (hpc := 339) hj rfl dL_call_320 csL_96 hS rfl rfl ps_0 (by decide) (by decide) ⟨by show 10 * d + 1 ≤ 10 * (d + 1); omega, by show 8 + (7 + 11) + 128 * d ≤ 128 * (d + 1); omega⟩ ⟨by show 0 + mc ≤ mc; omega, by show 0 + ms ≤ ms; omega⟩ (Nat.le_of_ble_eq_true rfl) (by decide +kernel) dL_call_339 (by decide) dL_call_341 bc_m104 dL_call_343 rfl ⟨by show 0 + mc ≤ mc; omega, by show 0 + ms ≤ ms; omega⟩
    | 4, hj => exact e_caught (j := 4) (nr := 134) (hpc := 344) hj rfl dL_call_320 csL_96 hS rfl rfl ps_0 (by decide) (by decide) ⟨by show 10 * d + 1 ≤ 10 * (d + 1); omega, by show 8 + (7 + 11) + 128 * d ≤ 128 * (d + 1); omega⟩ ⟨by show 0 + mc ≤ mc; omega, by show 0 + ms ≤ ms; omega⟩ (Nat.le_of_ble_eq_true rfl) (by decide +kernel) dL_call_344 (by decide) dL_call_346 bc_m105 dL_call_348 rfl ⟨by show 0 + mc ≤ mc; omega, by show 0 + ms ≤ ms; omega⟩
    | z + 5, h => exact absurd h (by omega)
theorem cl_addRule {l : Launch} (hf : l.stackTraces = false) {M M' : pmM} {d mc ms : Nat} {a1 a2 a3 a4 a5 a6 v : Int32} {res : pmRes} (hS : Sp l kX3_addRule 64 d mc ms [.ref 0, .int a1, .int a2, .int a3, .int a4, .int a5, .int a6] M res M') (hr : res = .inl (some (.int v)) ∨ ∃ j, j < 3 ∧ res = .inr (clE j) ∧ v = clC j) : SpH l kL_addRule 64 (d + 1) mc ms [.ref 0, .int a1, .int a2, .int a3, .int a4, .int a5, .int a6] M (.inl (some (.int v))) M' := by
  refine sph_of hf (by decide +kernel) (Nat.le_of_ble_eq_true rfl) (by intro v hv; simp at hv; rcases hv with rfl | rfl | rfl | rfl | rfl | rfl | rfl <;> rfl) ?_
  refine e_aload_0 dL_addRule_0 rfl ?_
  refine e_iload_1 dL_addRule_1 rfl ?_
  refine e_iload_2 dL_addRule_2 rfl ?_
  refine e_iload_3 dL_addRule_3 rfl ?_
  refine e_iload_4 dL_addRule_4 rfl ?_
  refine e_iload_5 dL_addRule_6 rfl ?_
  refine e_iload_6 dL_addRule_8 rfl ?_
  rcases hr with rfl | ⟨j, hj, rfl, rfl⟩
  · refine e_callV dL_addRule_10 rfl csL_109 hS rfl rfl ps_0 (by decide) (by decide) ⟨by show 10 * d + 1 ≤ 10 * (d + 1); omega, by show 8 + (8 + 11) + 128 * d ≤ 128 * (d + 1); omega⟩ ⟨by show 0 + mc ≤ mc; omega, by show 0 + ms ≤ ms; omega⟩ rfl rfl (Nat.le_of_ble_eq_true rfl) ?_
    exact e_iret dL_addRule_13 rfl rfl (by show 0 + mc ≤ mc; omega) (by show 0 + ms ≤ ms; omega) rfl rfl
  · match j, hj with
    | 0, hj => exact e_caught (j := 0) (nr := 0) (hpc := 14) (by omega) rfl dL_addRule_10 csL_109 hS rfl rfl ps_0 (by decide) (by decide) ⟨by show 10 * d + 1 ≤ 10 * (d + 1); omega, by show 8 + (8 + 11) + 128 * d ≤ 128 * (d + 1); omega⟩ ⟨by show 0 + mc ≤ mc; omega, by show 0 + ms ≤ ms; omega⟩ (Nat.le_of_ble_eq_true rfl) (by decide +kernel) dL_addRule_14 (by decide) dL_addRule_16 bc_m101 dL_addRule_18 rfl ⟨by show 0 + mc ≤ mc; omega, by show 0 + ms ≤ ms; omega⟩
    | 1, hj => exact e_caught (j := 1) (nr := 1) (hpc := 19) (by omega) rfl dL_addRule_10 csL_109 hS rfl rfl ps_0 (by decide) (by decide) ⟨by show 10 * d + 1 ≤ 10 * (d + 1); omega, by show 8 + (8 + 11) + 128 * d ≤ 128 * (d + 1); omega⟩ ⟨by show 0 + mc ≤ mc; omega, by show 0 + ms ≤ ms; omega⟩ (Nat.le_of_ble_eq_true rfl) (by decide +kernel) dL_addRule_19 (by decide) dL_addRule_21 bc_m102 dL_addRule_23 rfl ⟨by show 0 + mc ≤ mc; omega, by show 0 + ms ≤ ms; omega⟩
    | 2, hj => exact e_caught (j := 2) (nr := 2) (hpc := 24) (by omega) rfl dL_addRule_10 csL_109 hS rfl rfl ps_0 (by decide) (by decide) ⟨by show 10 * d + 1 ≤ 10 * (d + 1); omega, by show 8 + (8 + 11) + 128 * d ≤ 128 * (d + 1); omega⟩ ⟨by show 0 + mc ≤ mc; omega, by show 0 + ms ≤ ms; omega⟩ (Nat.le_of_ble_eq_true rfl) (by decide +kernel) dL_addRule_24 (by decide) dL_addRule_26 bc_m103 dL_addRule_28 rfl ⟨by show 0 + mc ≤ mc; omega, by show 0 + ms ≤ ms; omega⟩
    | z + 3, h => exact absurd h (by omega)
