/-! ===== law's wrappers ===== -/
def bL (b : Bool) : Int64 := if b = true then 1 else 0
def ouM (M : pmM) (x : Int64) : pmM := (M.1, M.2.1, pm2 M.2.2.1 84 0 x, M.2.2.2)
def odD (M : pmM) (x : UInt64) : pmM := (M.1, M.2.1, M.2.2.1, pm2 M.2.2.2 85 0 x)
theorem w_addObject_ok {l : Launch} (hf : l.stackTraces = false) {M M' : pmM} {v : Int32} (hS : Sp l kX3_addObject 86 1 1 6 [.ref 0] M (.inl (some (.int v))) M') : SpH l kL_addObject 86 2 1 6 [.ref 0, .ref 84] M (.inl (some (.int (nI 0)))) (ouM M' v.toInt64) := by
  refine sph_of hf (by decide +kernel) (Nat.le_of_ble_eq_true rfl) (by intro v hv; simp at hv; rcases hv with rfl | rfl <;> rfl) ?_
  refine e_aload_1 dL_addObject_0 rfl ?_
  refine e_iconst (v := nI 0) dL_addObject_1 rfl ic_0 ?_
  refine e_aload_0 dL_addObject_2 rfl ?_
  refine e_callV dL_addObject_3 rfl csL_7 hS rfl rfl ps_0 (by decide) (by decide) ⟨Nat.le_of_ble_eq_true rfl, Nat.le_of_ble_eq_true rfl⟩ ⟨Nat.le_of_ble_eq_true rfl, Nat.le_of_ble_eq_true rfl⟩ rfl rfl (Nat.le_of_ble_eq_true rfl) ?_
  refine e_i2l dL_addObject_6 rfl ?_
  refine e_last dL_addObject_7 rfl ps_84 (by decide) rfl (by omega) ?_
  refine e_goto (tgt := 14) dL_addObject_8 (by decide) ?_
  refine e_iconst (v := nI 0) dL_addObject_14 rfl ic_0 ?_
  exact e_iret dL_addObject_15 rfl rfl (Nat.le_of_ble_eq_true rfl) (Nat.le_of_ble_eq_true rfl) rfl rfl
theorem w_addObject_x1 {l : Launch} (hf : l.stackTraces = false) {M M' : pmM}  (hS : Sp l kX3_addObject 86 1 1 6 [.ref 0] M (.inr "java/lang/IllegalStateException") M') : SpH l kL_addObject 86 2 1 6 [.ref 0, .ref 84] M (.inl (some (.int (nI 1)))) M' := by
  refine sph_of hf (by decide +kernel) (Nat.le_of_ble_eq_true rfl) (by intro v hv; simp at hv; rcases hv with rfl | rfl <;> rfl) ?_
  refine e_aload_1 dL_addObject_0 rfl ?_
  refine e_iconst (v := nI 0) dL_addObject_1 rfl ic_0 ?_
  refine e_aload_0 dL_addObject_2 rfl ?_
  have hh : pmHd kL_addObject 3 11 "java/lang/IllegalStateException" := by
    refine ⟨[], (0, 8, 11, 13), [], rfl, fun z hz => ?_, by decide, by decide, rfl, by decide, "java/lang/IllegalStateException", gw_of 259 (by decide +kernel) rfl, nw_of 266 (by decide +kernel) rfl⟩
    exact absurd hz List.not_mem_nil
  exact e_catch dL_addObject_3 csL_7 hS rfl rfl ps_0 (by decide) (by decide) ⟨Nat.le_of_ble_eq_true rfl, Nat.le_of_ble_eq_true rfl⟩ ⟨Nat.le_of_ble_eq_true rfl, Nat.le_of_ble_eq_true rfl⟩ (Nat.le_of_ble_eq_true rfl) hh (Or.inl ⟨2, dL_addObject_11, by decide, rfl⟩) dL_addObject_12 ic_1 dL_addObject_13 rfl ⟨Nat.le_of_ble_eq_true rfl, Nat.le_of_ble_eq_true rfl⟩
theorem w_addRange_ok {l : Launch} (hf : l.stackTraces = false) {M M' : pmM} {x1 x2 x3 : Int32} {v : Int32} (hS : Sp l kX3_addRange 86 11 5 30 [.ref 0, .int x1, .int x2, .int x3] M (.inl (some (.int v))) M') : SpH l kL_addRange 86 12 5 30 [.ref 0, .int x1, .int x2, .int x3, .ref 84] M (.inl (some (.int (nI 0)))) (ouM M' v.toInt64) := by
  refine sph_of hf (by decide +kernel) (Nat.le_of_ble_eq_true rfl) (by intro v hv; simp at hv; rcases hv with rfl | rfl | rfl | rfl | rfl <;> rfl) ?_
  refine e_aload_4 dL_addRange_0 rfl ?_
  refine e_iconst (v := nI 0) dL_addRange_2 rfl ic_0 ?_
  refine e_aload_0 dL_addRange_3 rfl ?_
  refine e_iload_1 dL_addRange_4 rfl ?_
  refine e_iload_2 dL_addRange_5 rfl ?_
  refine e_iload_3 dL_addRange_6 rfl ?_
  refine e_callV dL_addRange_7 rfl csL_15 hS rfl rfl ps_0 (by decide) (by decide) ⟨Nat.le_of_ble_eq_true rfl, Nat.le_of_ble_eq_true rfl⟩ ⟨Nat.le_of_ble_eq_true rfl, Nat.le_of_ble_eq_true rfl⟩ rfl rfl (Nat.le_of_ble_eq_true rfl) ?_
  refine e_i2l dL_addRange_10 rfl ?_
  refine e_last dL_addRange_11 rfl ps_84 (by decide) rfl (by omega) ?_
  refine e_goto (tgt := 27) dL_addRange_12 (by decide) ?_
  refine e_iconst (v := nI 0) dL_addRange_27 rfl ic_0 ?_
  exact e_iret dL_addRange_28 rfl rfl (Nat.le_of_ble_eq_true rfl) (Nat.le_of_ble_eq_true rfl) rfl rfl
theorem w_addRange_x1 {l : Launch} (hf : l.stackTraces = false) {M M' : pmM} {x1 x2 x3 : Int32}  (hS : Sp l kX3_addRange 86 11 5 30 [.ref 0, .int x1, .int x2, .int x3] M (.inr "java/lang/IndexOutOfBoundsException") M') : SpH l kL_addRange 86 12 5 30 [.ref 0, .int x1, .int x2, .int x3, .ref 84] M (.inl (some (.int (nI 1)))) M' := by
  refine sph_of hf (by decide +kernel) (Nat.le_of_ble_eq_true rfl) (by intro v hv; simp at hv; rcases hv with rfl | rfl | rfl | rfl | rfl <;> rfl) ?_
  refine e_aload_4 dL_addRange_0 rfl ?_
  refine e_iconst (v := nI 0) dL_addRange_2 rfl ic_0 ?_
  refine e_aload_0 dL_addRange_3 rfl ?_
  refine e_iload_1 dL_addRange_4 rfl ?_
  refine e_iload_2 dL_addRange_5 rfl ?_
  refine e_iload_3 dL_addRange_6 rfl ?_
  have hh : pmHd kL_addRange 7 15 "java/lang/IndexOutOfBoundsException" := by
    refine ⟨[], (0, 12, 15, 19), [(0, 12, 19, 21), (0, 12, 23, 13)], rfl, fun z hz => ?_, by decide, by decide, rfl, by decide, "java/lang/IndexOutOfBoundsException", gw_of 339 (by decide +kernel) rfl, nw_of 374 (by decide +kernel) rfl⟩
    exact absurd hz List.not_mem_nil
  exact e_catch dL_addRange_7 csL_15 hS rfl rfl ps_0 (by decide) (by decide) ⟨Nat.le_of_ble_eq_true rfl, Nat.le_of_ble_eq_true rfl⟩ ⟨Nat.le_of_ble_eq_true rfl, Nat.le_of_ble_eq_true rfl⟩ (Nat.le_of_ble_eq_true rfl) hh (Or.inr ⟨5, dL_addRange_15, by decide, rfl⟩) dL_addRange_17 ic_1 dL_addRange_18 rfl ⟨Nat.le_of_ble_eq_true rfl, Nat.le_of_ble_eq_true rfl⟩
theorem w_addRange_x2 {l : Launch} (hf : l.stackTraces = false) {M M' : pmM} {x1 x2 x3 : Int32}  (hS : Sp l kX3_addRange 86 11 5 30 [.ref 0, .int x1, .int x2, .int x3] M (.inr "java/lang/IllegalArgumentException") M') : SpH l kL_addRange 86 12 5 30 [.ref 0, .int x1, .int x2, .int x3, .ref 84] M (.inl (some (.int (nI 2)))) M' := by
  refine sph_of hf (by decide +kernel) (Nat.le_of_ble_eq_true rfl) (by intro v hv; simp at hv; rcases hv with rfl | rfl | rfl | rfl | rfl <;> rfl) ?_
  refine e_aload_4 dL_addRange_0 rfl ?_
  refine e_iconst (v := nI 0) dL_addRange_2 rfl ic_0 ?_
  refine e_aload_0 dL_addRange_3 rfl ?_
  refine e_iload_1 dL_addRange_4 rfl ?_
  refine e_iload_2 dL_addRange_5 rfl ?_
  refine e_iload_3 dL_addRange_6 rfl ?_
  have hh : pmHd kL_addRange 7 19 "java/lang/IllegalArgumentException" := by
    refine ⟨[(0, 12, 15, 19)], (0, 12, 19, 21), [(0, 12, 23, 13)], rfl, fun z hz => ?_, by decide, by decide, rfl, by decide, "java/lang/IllegalArgumentException", gw_of 363 (by decide +kernel) rfl, nw_of 393 (by decide +kernel) rfl⟩
    rcases List.mem_cons.mp hz with rfl | hz
    · exact ⟨by decide, "java/lang/IndexOutOfBoundsException", gw_of 339 (by decide +kernel) rfl, by decide⟩
    exact absurd hz List.not_mem_nil
  exact e_catch dL_addRange_7 csL_15 hS rfl rfl ps_0 (by decide) (by decide) ⟨Nat.le_of_ble_eq_true rfl, Nat.le_of_ble_eq_true rfl⟩ ⟨Nat.le_of_ble_eq_true rfl, Nat.le_of_ble_eq_true rfl⟩ (Nat.le_of_ble_eq_true rfl) hh (Or.inr ⟨5, dL_addRange_19, by decide, rfl⟩) dL_addRange_21 ic_2 dL_addRange_22 rfl ⟨Nat.le_of_ble_eq_true rfl, Nat.le_of_ble_eq_true rfl⟩
theorem w_addRange_x3 {l : Launch} (hf : l.stackTraces = false) {M M' : pmM} {x1 x2 x3 : Int32}  (hS : Sp l kX3_addRange 86 11 5 30 [.ref 0, .int x1, .int x2, .int x3] M (.inr "java/lang/IllegalStateException") M') : SpH l kL_addRange 86 12 5 30 [.ref 0, .int x1, .int x2, .int x3, .ref 84] M (.inl (some (.int (nI 3)))) M' := by
  refine sph_of hf (by decide +kernel) (Nat.le_of_ble_eq_true rfl) (by intro v hv; simp at hv; rcases hv with rfl | rfl | rfl | rfl | rfl <;> rfl) ?_
  refine e_aload_4 dL_addRange_0 rfl ?_
  refine e_iconst (v := nI 0) dL_addRange_2 rfl ic_0 ?_
  refine e_aload_0 dL_addRange_3 rfl ?_
  refine e_iload_1 dL_addRange_4 rfl ?_
  refine e_iload_2 dL_addRange_5 rfl ?_
  refine e_iload_3 dL_addRange_6 rfl ?_
  have hh : pmHd kL_addRange 7 23 "java/lang/IllegalStateException" := by
    refine ⟨[(0, 12, 15, 19), (0, 12, 19, 21)], (0, 12, 23, 13), [], rfl, fun z hz => ?_, by decide, by decide, rfl, by decide, "java/lang/IllegalStateException", gw_of 259 (by decide +kernel) rfl, nw_of 266 (by decide +kernel) rfl⟩
    rcases List.mem_cons.mp hz with rfl | hz
    · exact ⟨by decide, "java/lang/IndexOutOfBoundsException", gw_of 339 (by decide +kernel) rfl, by decide⟩
    rcases List.mem_cons.mp hz with rfl | hz
    · exact ⟨by decide, "java/lang/IllegalArgumentException", gw_of 363 (by decide +kernel) rfl, by decide⟩
    exact absurd hz List.not_mem_nil
  exact e_catch dL_addRange_7 csL_15 hS rfl rfl ps_0 (by decide) (by decide) ⟨Nat.le_of_ble_eq_true rfl, Nat.le_of_ble_eq_true rfl⟩ ⟨Nat.le_of_ble_eq_true rfl, Nat.le_of_ble_eq_true rfl⟩ (Nat.le_of_ble_eq_true rfl) hh (Or.inr ⟨5, dL_addRange_23, by decide, rfl⟩) dL_addRange_25 ic_3 dL_addRange_26 rfl ⟨Nat.le_of_ble_eq_true rfl, Nat.le_of_ble_eq_true rfl⟩
theorem w_removeRange_ok {l : Launch} (hf : l.stackTraces = false) {M M' : pmM} {x1 : Int32} {v : Int32} (hS : Sp l kX3_removeRange 86 11 2 12 [.ref 0, .int x1] M (.inl (some (.int v))) M') : SpH l kL_removeRange 86 12 2 12 [.ref 0, .int x1, .ref 84] M (.inl (some (.int (nI 0)))) (ouM M' v.toInt64) := by
  refine sph_of hf (by decide +kernel) (Nat.le_of_ble_eq_true rfl) (by intro v hv; simp at hv; rcases hv with rfl | rfl | rfl <;> rfl) ?_
  refine e_aload_2 dL_removeRange_0 rfl ?_
  refine e_iconst (v := nI 0) dL_removeRange_1 rfl ic_0 ?_
  refine e_aload_0 dL_removeRange_2 rfl ?_
  refine e_iload_1 dL_removeRange_3 rfl ?_
  refine e_callV dL_removeRange_4 rfl csL_23 hS rfl rfl ps_0 (by decide) (by decide) ⟨Nat.le_of_ble_eq_true rfl, Nat.le_of_ble_eq_true rfl⟩ ⟨Nat.le_of_ble_eq_true rfl, Nat.le_of_ble_eq_true rfl⟩ rfl rfl (Nat.le_of_ble_eq_true rfl) ?_
  refine e_i2l dL_removeRange_7 rfl ?_
  refine e_last dL_removeRange_8 rfl ps_84 (by decide) rfl (by omega) ?_
  refine e_goto (tgt := 18) dL_removeRange_9 (by decide) ?_
  refine e_iconst (v := nI 0) dL_removeRange_18 rfl ic_0 ?_
  exact e_iret dL_removeRange_19 rfl rfl (Nat.le_of_ble_eq_true rfl) (Nat.le_of_ble_eq_true rfl) rfl rfl
theorem w_removeRange_x1 {l : Launch} (hf : l.stackTraces = false) {M M' : pmM} {x1 : Int32}  (hS : Sp l kX3_removeRange 86 11 2 12 [.ref 0, .int x1] M (.inr "java/lang/IndexOutOfBoundsException") M') : SpH l kL_removeRange 86 12 2 12 [.ref 0, .int x1, .ref 84] M (.inl (some (.int (nI 1)))) M' := by
  refine sph_of hf (by decide +kernel) (Nat.le_of_ble_eq_true rfl) (by intro v hv; simp at hv; rcases hv with rfl | rfl | rfl <;> rfl) ?_
  refine e_aload_2 dL_removeRange_0 rfl ?_
  refine e_iconst (v := nI 0) dL_removeRange_1 rfl ic_0 ?_
  refine e_aload_0 dL_removeRange_2 rfl ?_
  refine e_iload_1 dL_removeRange_3 rfl ?_
  have hh : pmHd kL_removeRange 4 12 "java/lang/IndexOutOfBoundsException" := by
    refine ⟨[], (0, 9, 12, 19), [(0, 9, 15, 13)], rfl, fun z hz => ?_, by decide, by decide, rfl, by decide, "java/lang/IndexOutOfBoundsException", gw_of 339 (by decide +kernel) rfl, nw_of 374 (by decide +kernel) rfl⟩
    exact absurd hz List.not_mem_nil
  exact e_catch dL_removeRange_4 csL_23 hS rfl rfl ps_0 (by decide) (by decide) ⟨Nat.le_of_ble_eq_true rfl, Nat.le_of_ble_eq_true rfl⟩ ⟨Nat.le_of_ble_eq_true rfl, Nat.le_of_ble_eq_true rfl⟩ (Nat.le_of_ble_eq_true rfl) hh (Or.inl ⟨3, dL_removeRange_12, by decide, rfl⟩) dL_removeRange_13 ic_1 dL_removeRange_14 rfl ⟨Nat.le_of_ble_eq_true rfl, Nat.le_of_ble_eq_true rfl⟩
theorem w_removeRange_x2 {l : Launch} (hf : l.stackTraces = false) {M M' : pmM} {x1 : Int32}  (hS : Sp l kX3_removeRange 86 11 2 12 [.ref 0, .int x1] M (.inr "java/lang/IllegalStateException") M') : SpH l kL_removeRange 86 12 2 12 [.ref 0, .int x1, .ref 84] M (.inl (some (.int (nI 2)))) M' := by
  refine sph_of hf (by decide +kernel) (Nat.le_of_ble_eq_true rfl) (by intro v hv; simp at hv; rcases hv with rfl | rfl | rfl <;> rfl) ?_
  refine e_aload_2 dL_removeRange_0 rfl ?_
  refine e_iconst (v := nI 0) dL_removeRange_1 rfl ic_0 ?_
  refine e_aload_0 dL_removeRange_2 rfl ?_
  refine e_iload_1 dL_removeRange_3 rfl ?_
  have hh : pmHd kL_removeRange 4 15 "java/lang/IllegalStateException" := by
    refine ⟨[(0, 9, 12, 19)], (0, 9, 15, 13), [], rfl, fun z hz => ?_, by decide, by decide, rfl, by decide, "java/lang/IllegalStateException", gw_of 259 (by decide +kernel) rfl, nw_of 266 (by decide +kernel) rfl⟩
    rcases List.mem_cons.mp hz with rfl | hz
    · exact ⟨by decide, "java/lang/IndexOutOfBoundsException", gw_of 339 (by decide +kernel) rfl, by decide⟩
    exact absurd hz List.not_mem_nil
  exact e_catch dL_removeRange_4 csL_23 hS rfl rfl ps_0 (by decide) (by decide) ⟨Nat.le_of_ble_eq_true rfl, Nat.le_of_ble_eq_true rfl⟩ ⟨Nat.le_of_ble_eq_true rfl, Nat.le_of_ble_eq_true rfl⟩ (Nat.le_of_ble_eq_true rfl) hh (Or.inl ⟨3, dL_removeRange_15, by decide, rfl⟩) dL_removeRange_16 ic_2 dL_removeRange_17 rfl ⟨Nat.le_of_ble_eq_true rfl, Nat.le_of_ble_eq_true rfl⟩
theorem w_addMember_ok {l : Launch} (hf : l.stackTraces = false) {M M' : pmM} {x1 x2 : Int32} {v : Int32} (hS : Sp l kX3_addMember 86 12 3 18 [.ref 0, .int x1, .int x2] M (.inl (some (.int v))) M') : SpH l kL_addMember 86 13 3 18 [.ref 0, .int x1, .int x2, .ref 84] M (.inl (some (.int (nI 0)))) (ouM M' v.toInt64) := by
  refine sph_of hf (by decide +kernel) (Nat.le_of_ble_eq_true rfl) (by intro v hv; simp at hv; rcases hv with rfl | rfl | rfl | rfl <;> rfl) ?_
  refine e_aload_3 dL_addMember_0 rfl ?_
  refine e_iconst (v := nI 0) dL_addMember_1 rfl ic_0 ?_
  refine e_aload_0 dL_addMember_2 rfl ?_
  refine e_iload_1 dL_addMember_3 rfl ?_
  refine e_iload_2 dL_addMember_4 rfl ?_
  refine e_callV dL_addMember_5 rfl csL_27 hS rfl rfl ps_0 (by decide) (by decide) ⟨Nat.le_of_ble_eq_true rfl, Nat.le_of_ble_eq_true rfl⟩ ⟨Nat.le_of_ble_eq_true rfl, Nat.le_of_ble_eq_true rfl⟩ rfl rfl (Nat.le_of_ble_eq_true rfl) ?_
  refine e_i2l dL_addMember_8 rfl ?_
  refine e_last dL_addMember_9 rfl ps_84 (by decide) rfl (by omega) ?_
  refine e_goto (tgt := 29) dL_addMember_10 (by decide) ?_
  refine e_iconst (v := nI 0) dL_addMember_29 rfl ic_0 ?_
  exact e_iret dL_addMember_30 rfl rfl (Nat.le_of_ble_eq_true rfl) (Nat.le_of_ble_eq_true rfl) rfl rfl
theorem w_addMember_x1 {l : Launch} (hf : l.stackTraces = false) {M M' : pmM} {x1 x2 : Int32}  (hS : Sp l kX3_addMember 86 12 3 18 [.ref 0, .int x1, .int x2] M (.inr "java/lang/IndexOutOfBoundsException") M') : SpH l kL_addMember 86 13 3 18 [.ref 0, .int x1, .int x2, .ref 84] M (.inl (some (.int (nI 1)))) M' := by
  refine sph_of hf (by decide +kernel) (Nat.le_of_ble_eq_true rfl) (by intro v hv; simp at hv; rcases hv with rfl | rfl | rfl | rfl <;> rfl) ?_
  refine e_aload_3 dL_addMember_0 rfl ?_
  refine e_iconst (v := nI 0) dL_addMember_1 rfl ic_0 ?_
  refine e_aload_0 dL_addMember_2 rfl ?_
  refine e_iload_1 dL_addMember_3 rfl ?_
  refine e_iload_2 dL_addMember_4 rfl ?_
  have hh : pmHd kL_addMember 5 13 "java/lang/IndexOutOfBoundsException" := by
    refine ⟨[], (0, 10, 13, 19), [(0, 10, 17, 21), (0, 10, 21, 31), (0, 10, 25, 13)], rfl, fun z hz => ?_, by decide, by decide, rfl, by decide, "java/lang/IndexOutOfBoundsException", gw_of 339 (by decide +kernel) rfl, nw_of 374 (by decide +kernel) rfl⟩
    exact absurd hz List.not_mem_nil
  exact e_catch dL_addMember_5 csL_27 hS rfl rfl ps_0 (by decide) (by decide) ⟨Nat.le_of_ble_eq_true rfl, Nat.le_of_ble_eq_true rfl⟩ ⟨Nat.le_of_ble_eq_true rfl, Nat.le_of_ble_eq_true rfl⟩ (Nat.le_of_ble_eq_true rfl) hh (Or.inr ⟨4, dL_addMember_13, by decide, rfl⟩) dL_addMember_15 ic_1 dL_addMember_16 rfl ⟨Nat.le_of_ble_eq_true rfl, Nat.le_of_ble_eq_true rfl⟩
theorem w_addMember_x2 {l : Launch} (hf : l.stackTraces = false) {M M' : pmM} {x1 x2 : Int32}  (hS : Sp l kX3_addMember 86 12 3 18 [.ref 0, .int x1, .int x2] M (.inr "java/lang/IllegalArgumentException") M') : SpH l kL_addMember 86 13 3 18 [.ref 0, .int x1, .int x2, .ref 84] M (.inl (some (.int (nI 2)))) M' := by
  refine sph_of hf (by decide +kernel) (Nat.le_of_ble_eq_true rfl) (by intro v hv; simp at hv; rcases hv with rfl | rfl | rfl | rfl <;> rfl) ?_
  refine e_aload_3 dL_addMember_0 rfl ?_
  refine e_iconst (v := nI 0) dL_addMember_1 rfl ic_0 ?_
  refine e_aload_0 dL_addMember_2 rfl ?_
  refine e_iload_1 dL_addMember_3 rfl ?_
  refine e_iload_2 dL_addMember_4 rfl ?_
  have hh : pmHd kL_addMember 5 17 "java/lang/IllegalArgumentException" := by
    refine ⟨[(0, 10, 13, 19)], (0, 10, 17, 21), [(0, 10, 21, 31), (0, 10, 25, 13)], rfl, fun z hz => ?_, by decide, by decide, rfl, by decide, "java/lang/IllegalArgumentException", gw_of 363 (by decide +kernel) rfl, nw_of 393 (by decide +kernel) rfl⟩
    rcases List.mem_cons.mp hz with rfl | hz
    · exact ⟨by decide, "java/lang/IndexOutOfBoundsException", gw_of 339 (by decide +kernel) rfl, by decide⟩
    exact absurd hz List.not_mem_nil
  exact e_catch dL_addMember_5 csL_27 hS rfl rfl ps_0 (by decide) (by decide) ⟨Nat.le_of_ble_eq_true rfl, Nat.le_of_ble_eq_true rfl⟩ ⟨Nat.le_of_ble_eq_true rfl, Nat.le_of_ble_eq_true rfl⟩ (Nat.le_of_ble_eq_true rfl) hh (Or.inr ⟨4, dL_addMember_17, by decide, rfl⟩) dL_addMember_19 ic_2 dL_addMember_20 rfl ⟨Nat.le_of_ble_eq_true rfl, Nat.le_of_ble_eq_true rfl⟩
theorem w_addMember_x3 {l : Launch} (hf : l.stackTraces = false) {M M' : pmM} {x1 x2 : Int32}  (hS : Sp l kX3_addMember 86 12 3 18 [.ref 0, .int x1, .int x2] M (.inr "java/lang/UnsupportedOperationException") M') : SpH l kL_addMember 86 13 3 18 [.ref 0, .int x1, .int x2, .ref 84] M (.inl (some (.int (nI 3)))) M' := by
  refine sph_of hf (by decide +kernel) (Nat.le_of_ble_eq_true rfl) (by intro v hv; simp at hv; rcases hv with rfl | rfl | rfl | rfl <;> rfl) ?_
  refine e_aload_3 dL_addMember_0 rfl ?_
  refine e_iconst (v := nI 0) dL_addMember_1 rfl ic_0 ?_
  refine e_aload_0 dL_addMember_2 rfl ?_
  refine e_iload_1 dL_addMember_3 rfl ?_
  refine e_iload_2 dL_addMember_4 rfl ?_
  have hh : pmHd kL_addMember 5 21 "java/lang/UnsupportedOperationException" := by
    refine ⟨[(0, 10, 13, 19), (0, 10, 17, 21)], (0, 10, 21, 31), [(0, 10, 25, 13)], rfl, fun z hz => ?_, by decide, by decide, rfl, by decide, "java/lang/UnsupportedOperationException", gw_of 437 (by decide +kernel) rfl, nw_of 448 (by decide +kernel) rfl⟩
    rcases List.mem_cons.mp hz with rfl | hz
    · exact ⟨by decide, "java/lang/IndexOutOfBoundsException", gw_of 339 (by decide +kernel) rfl, by decide⟩
    rcases List.mem_cons.mp hz with rfl | hz
    · exact ⟨by decide, "java/lang/IllegalArgumentException", gw_of 363 (by decide +kernel) rfl, by decide⟩
    exact absurd hz List.not_mem_nil
  exact e_catch dL_addMember_5 csL_27 hS rfl rfl ps_0 (by decide) (by decide) ⟨Nat.le_of_ble_eq_true rfl, Nat.le_of_ble_eq_true rfl⟩ ⟨Nat.le_of_ble_eq_true rfl, Nat.le_of_ble_eq_true rfl⟩ (Nat.le_of_ble_eq_true rfl) hh (Or.inr ⟨4, dL_addMember_21, by decide, rfl⟩) dL_addMember_23 ic_3 dL_addMember_24 rfl ⟨Nat.le_of_ble_eq_true rfl, Nat.le_of_ble_eq_true rfl⟩
theorem w_addMember_x4 {l : Launch} (hf : l.stackTraces = false) {M M' : pmM} {x1 x2 : Int32}  (hS : Sp l kX3_addMember 86 12 3 18 [.ref 0, .int x1, .int x2] M (.inr "java/lang/IllegalStateException") M') : SpH l kL_addMember 86 13 3 18 [.ref 0, .int x1, .int x2, .ref 84] M (.inl (some (.int (nI 4)))) M' := by
  refine sph_of hf (by decide +kernel) (Nat.le_of_ble_eq_true rfl) (by intro v hv; simp at hv; rcases hv with rfl | rfl | rfl | rfl <;> rfl) ?_
  refine e_aload_3 dL_addMember_0 rfl ?_
  refine e_iconst (v := nI 0) dL_addMember_1 rfl ic_0 ?_
  refine e_aload_0 dL_addMember_2 rfl ?_
  refine e_iload_1 dL_addMember_3 rfl ?_
  refine e_iload_2 dL_addMember_4 rfl ?_
  have hh : pmHd kL_addMember 5 25 "java/lang/IllegalStateException" := by
    refine ⟨[(0, 10, 13, 19), (0, 10, 17, 21), (0, 10, 21, 31)], (0, 10, 25, 13), [], rfl, fun z hz => ?_, by decide, by decide, rfl, by decide, "java/lang/IllegalStateException", gw_of 259 (by decide +kernel) rfl, nw_of 266 (by decide +kernel) rfl⟩
    rcases List.mem_cons.mp hz with rfl | hz
    · exact ⟨by decide, "java/lang/IndexOutOfBoundsException", gw_of 339 (by decide +kernel) rfl, by decide⟩
    rcases List.mem_cons.mp hz with rfl | hz
    · exact ⟨by decide, "java/lang/IllegalArgumentException", gw_of 363 (by decide +kernel) rfl, by decide⟩
    rcases List.mem_cons.mp hz with rfl | hz
    · exact ⟨by decide, "java/lang/UnsupportedOperationException", gw_of 437 (by decide +kernel) rfl, by decide⟩
    exact absurd hz List.not_mem_nil
  exact e_catch dL_addMember_5 csL_27 hS rfl rfl ps_0 (by decide) (by decide) ⟨Nat.le_of_ble_eq_true rfl, Nat.le_of_ble_eq_true rfl⟩ ⟨Nat.le_of_ble_eq_true rfl, Nat.le_of_ble_eq_true rfl⟩ (Nat.le_of_ble_eq_true rfl) hh (Or.inr ⟨4, dL_addMember_25, by decide, rfl⟩) dL_addMember_27 ic_4 dL_addMember_28 rfl ⟨Nat.le_of_ble_eq_true rfl, Nat.le_of_ble_eq_true rfl⟩
theorem w_removeMember_ok {l : Launch} (hf : l.stackTraces = false) {M M' : pmM} {x1 x2 : Int32} {v : Int32} (hS : Sp l kX3_removeMember 86 12 3 18 [.ref 0, .int x1, .int x2] M (.inl (some (.int v))) M') : SpH l kL_removeMember 86 13 3 18 [.ref 0, .int x1, .int x2, .ref 84] M (.inl (some (.int (nI 0)))) (ouM M' v.toInt64) := by
  refine sph_of hf (by decide +kernel) (Nat.le_of_ble_eq_true rfl) (by intro v hv; simp at hv; rcases hv with rfl | rfl | rfl | rfl <;> rfl) ?_
  refine e_aload_3 dL_removeMember_0 rfl ?_
  refine e_iconst (v := nI 0) dL_removeMember_1 rfl ic_0 ?_
  refine e_aload_0 dL_removeMember_2 rfl ?_
  refine e_iload_1 dL_removeMember_3 rfl ?_
  refine e_iload_2 dL_removeMember_4 rfl ?_
  refine e_callV dL_removeMember_5 rfl csL_33 hS rfl rfl ps_0 (by decide) (by decide) ⟨Nat.le_of_ble_eq_true rfl, Nat.le_of_ble_eq_true rfl⟩ ⟨Nat.le_of_ble_eq_true rfl, Nat.le_of_ble_eq_true rfl⟩ rfl rfl (Nat.le_of_ble_eq_true rfl) ?_
  refine e_i2l dL_removeMember_8 rfl ?_
  refine e_last dL_removeMember_9 rfl ps_84 (by decide) rfl (by omega) ?_
  refine e_goto (tgt := 21) dL_removeMember_10 (by decide) ?_
  refine e_iconst (v := nI 0) dL_removeMember_21 rfl ic_0 ?_
  exact e_iret dL_removeMember_22 rfl rfl (Nat.le_of_ble_eq_true rfl) (Nat.le_of_ble_eq_true rfl) rfl rfl
theorem w_removeMember_x1 {l : Launch} (hf : l.stackTraces = false) {M M' : pmM} {x1 x2 : Int32}  (hS : Sp l kX3_removeMember 86 12 3 18 [.ref 0, .int x1, .int x2] M (.inr "java/lang/IndexOutOfBoundsException") M') : SpH l kL_removeMember 86 13 3 18 [.ref 0, .int x1, .int x2, .ref 84] M (.inl (some (.int (nI 1)))) M' := by
  refine sph_of hf (by decide +kernel) (Nat.le_of_ble_eq_true rfl) (by intro v hv; simp at hv; rcases hv with rfl | rfl | rfl | rfl <;> rfl) ?_
  refine e_aload_3 dL_removeMember_0 rfl ?_
  refine e_iconst (v := nI 0) dL_removeMember_1 rfl ic_0 ?_
  refine e_aload_0 dL_removeMember_2 rfl ?_
  refine e_iload_1 dL_removeMember_3 rfl ?_
  refine e_iload_2 dL_removeMember_4 rfl ?_
  have hh : pmHd kL_removeMember 5 13 "java/lang/IndexOutOfBoundsException" := by
    refine ⟨[], (0, 10, 13, 19), [(0, 10, 17, 36)], rfl, fun z hz => ?_, by decide, by decide, rfl, by decide, "java/lang/IndexOutOfBoundsException", gw_of 339 (by decide +kernel) rfl, nw_of 374 (by decide +kernel) rfl⟩
    exact absurd hz List.not_mem_nil
  exact e_catch dL_removeMember_5 csL_33 hS rfl rfl ps_0 (by decide) (by decide) ⟨Nat.le_of_ble_eq_true rfl, Nat.le_of_ble_eq_true rfl⟩ ⟨Nat.le_of_ble_eq_true rfl, Nat.le_of_ble_eq_true rfl⟩ (Nat.le_of_ble_eq_true rfl) hh (Or.inr ⟨4, dL_removeMember_13, by decide, rfl⟩) dL_removeMember_15 ic_1 dL_removeMember_16 rfl ⟨Nat.le_of_ble_eq_true rfl, Nat.le_of_ble_eq_true rfl⟩
theorem w_removeMember_x2 {l : Launch} (hf : l.stackTraces = false) {M M' : pmM} {x1 x2 : Int32}  (hS : Sp l kX3_removeMember 86 12 3 18 [.ref 0, .int x1, .int x2] M (.inr "java/util/NoSuchElementException") M') : SpH l kL_removeMember 86 13 3 18 [.ref 0, .int x1, .int x2, .ref 84] M (.inl (some (.int (nI 2)))) M' := by
  refine sph_of hf (by decide +kernel) (Nat.le_of_ble_eq_true rfl) (by intro v hv; simp at hv; rcases hv with rfl | rfl | rfl | rfl <;> rfl) ?_
  refine e_aload_3 dL_removeMember_0 rfl ?_
  refine e_iconst (v := nI 0) dL_removeMember_1 rfl ic_0 ?_
  refine e_aload_0 dL_removeMember_2 rfl ?_
  refine e_iload_1 dL_removeMember_3 rfl ?_
  refine e_iload_2 dL_removeMember_4 rfl ?_
  have hh : pmHd kL_removeMember 5 17 "java/util/NoSuchElementException" := by
    refine ⟨[(0, 10, 13, 19)], (0, 10, 17, 36), [], rfl, fun z hz => ?_, by decide, by decide, rfl, by decide, "java/util/NoSuchElementException", gw_of 466 (by decide +kernel) rfl, nw_of 473 (by decide +kernel) rfl⟩
    rcases List.mem_cons.mp hz with rfl | hz
    · exact ⟨by decide, "java/lang/IndexOutOfBoundsException", gw_of 339 (by decide +kernel) rfl, by decide⟩
    exact absurd hz List.not_mem_nil
  exact e_catch dL_removeMember_5 csL_33 hS rfl rfl ps_0 (by decide) (by decide) ⟨Nat.le_of_ble_eq_true rfl, Nat.le_of_ble_eq_true rfl⟩ ⟨Nat.le_of_ble_eq_true rfl, Nat.le_of_ble_eq_true rfl⟩ (Nat.le_of_ble_eq_true rfl) hh (Or.inr ⟨4, dL_removeMember_17, by decide, rfl⟩) dL_removeMember_19 ic_2 dL_removeMember_20 rfl ⟨Nat.le_of_ble_eq_true rfl, Nat.le_of_ble_eq_true rfl⟩
theorem w_values_ok {l : Launch} (hf : l.stackTraces = false) {M M' : pmM} {x1 : Int32} {v : Int32} (hS : Sp l kX3_values 86 11 1 6 [.ref 0, .int x1] M (.inl (some (.int v))) M') : SpH l kL_values 86 12 1 6 [.ref 0, .int x1, .ref 84] M (.inl (some (.int (nI 0)))) (ouM M' v.toInt64) := by
  refine sph_of hf (by decide +kernel) (Nat.le_of_ble_eq_true rfl) (by intro v hv; simp at hv; rcases hv with rfl | rfl | rfl <;> rfl) ?_
  refine e_aload_2 dL_values_0 rfl ?_
  refine e_iconst (v := nI 0) dL_values_1 rfl ic_0 ?_
  refine e_aload_0 dL_values_2 rfl ?_
  refine e_iload_1 dL_values_3 rfl ?_
  refine e_callV dL_values_4 rfl csL_38 hS rfl rfl ps_0 (by decide) (by decide) ⟨Nat.le_of_ble_eq_true rfl, Nat.le_of_ble_eq_true rfl⟩ ⟨Nat.le_of_ble_eq_true rfl, Nat.le_of_ble_eq_true rfl⟩ rfl rfl (Nat.le_of_ble_eq_true rfl) ?_
  refine e_i2l dL_values_7 rfl ?_
  refine e_last dL_values_8 rfl ps_84 (by decide) rfl (by omega) ?_
  refine e_goto (tgt := 15) dL_values_9 (by decide) ?_
  refine e_iconst (v := nI 0) dL_values_15 rfl ic_0 ?_
  exact e_iret dL_values_16 rfl rfl (Nat.le_of_ble_eq_true rfl) (Nat.le_of_ble_eq_true rfl) rfl rfl
theorem w_values_x1 {l : Launch} (hf : l.stackTraces = false) {M M' : pmM} {x1 : Int32}  (hS : Sp l kX3_values 86 11 1 6 [.ref 0, .int x1] M (.inr "java/lang/IndexOutOfBoundsException") M') : SpH l kL_values 86 12 1 6 [.ref 0, .int x1, .ref 84] M (.inl (some (.int (nI 1)))) M' := by
  refine sph_of hf (by decide +kernel) (Nat.le_of_ble_eq_true rfl) (by intro v hv; simp at hv; rcases hv with rfl | rfl | rfl <;> rfl) ?_
  refine e_aload_2 dL_values_0 rfl ?_
  refine e_iconst (v := nI 0) dL_values_1 rfl ic_0 ?_
  refine e_aload_0 dL_values_2 rfl ?_
  refine e_iload_1 dL_values_3 rfl ?_
  have hh : pmHd kL_values 4 12 "java/lang/IndexOutOfBoundsException" := by
    refine ⟨[], (0, 9, 12, 19), [], rfl, fun z hz => ?_, by decide, by decide, rfl, by decide, "java/lang/IndexOutOfBoundsException", gw_of 339 (by decide +kernel) rfl, nw_of 374 (by decide +kernel) rfl⟩
    exact absurd hz List.not_mem_nil
  exact e_catch dL_values_4 csL_38 hS rfl rfl ps_0 (by decide) (by decide) ⟨Nat.le_of_ble_eq_true rfl, Nat.le_of_ble_eq_true rfl⟩ ⟨Nat.le_of_ble_eq_true rfl, Nat.le_of_ble_eq_true rfl⟩ (Nat.le_of_ble_eq_true rfl) hh (Or.inl ⟨3, dL_values_12, by decide, rfl⟩) dL_values_13 ic_1 dL_values_14 rfl ⟨Nat.le_of_ble_eq_true rfl, Nat.le_of_ble_eq_true rfl⟩
theorem w_hasValue_ok {l : Launch} (hf : l.stackTraces = false) {M M' : pmM} {x1 x2 : Int32} {b : Bool} (hS : Sp l kX3_hasValue 86 11 2 12 [.ref 0, .int x1, .int x2] M (.inl (some (.int (bI b)))) M') : SpH l kL_hasValue 86 12 2 12 [.ref 0, .int x1, .int x2, .ref 84] M (.inl (some (.int (nI 0)))) (ouM M' (bL b)) := by
  refine sph_of hf (by decide +kernel) (Nat.le_of_ble_eq_true rfl) (by intro v hv; simp at hv; rcases hv with rfl | rfl | rfl | rfl <;> rfl) ?_
  refine e_aload_3 dL_hasValue_0 rfl ?_
  refine e_iconst (v := nI 0) dL_hasValue_1 rfl ic_0 ?_
  refine e_aload_0 dL_hasValue_2 rfl ?_
  refine e_iload_1 dL_hasValue_3 rfl ?_
  refine e_iload_2 dL_hasValue_4 rfl ?_
  refine e_callV dL_hasValue_5 rfl csL_41 hS rfl rfl ps_0 (by decide) (by decide) ⟨Nat.le_of_ble_eq_true rfl, Nat.le_of_ble_eq_true rfl⟩ ⟨Nat.le_of_ble_eq_true rfl, Nat.le_of_ble_eq_true rfl⟩ rfl rfl (Nat.le_of_ble_eq_true rfl) ?_
  cases b with
  | false =>
    refine e_if_eq_t (tgt := 15) dL_hasValue_8 (by decide) (bI0 rfl) ?_
    refine e_lconst (v := 0) dL_hasValue_15 rfl rfl ?_
    refine e_last dL_hasValue_16 rfl ps_84 (by decide) rfl (by omega) ?_
    refine e_goto (tgt := 28) dL_hasValue_17 (by decide) ?_
    refine e_iconst (v := nI 0) dL_hasValue_28 rfl ic_0 ?_
    exact e_iret dL_hasValue_29 rfl rfl (Nat.le_of_ble_eq_true rfl) (Nat.le_of_ble_eq_true rfl) rfl rfl
  | true =>
    refine e_if_eq_f dL_hasValue_8 rfl ⟨15, by decide⟩ (bI1 rfl) ?_
    refine e_lconst (v := 1) dL_hasValue_11 rfl rfl ?_
    refine e_goto (tgt := 16) dL_hasValue_12 (by decide) ?_
    refine e_last dL_hasValue_16 rfl ps_84 (by decide) rfl (by omega) ?_
    refine e_goto (tgt := 28) dL_hasValue_17 (by decide) ?_
    refine e_iconst (v := nI 0) dL_hasValue_28 rfl ic_0 ?_
    exact e_iret dL_hasValue_29 rfl rfl (Nat.le_of_ble_eq_true rfl) (Nat.le_of_ble_eq_true rfl) rfl rfl
theorem w_hasValue_x1 {l : Launch} (hf : l.stackTraces = false) {M M' : pmM} {x1 x2 : Int32}  (hS : Sp l kX3_hasValue 86 11 2 12 [.ref 0, .int x1, .int x2] M (.inr "java/lang/IndexOutOfBoundsException") M') : SpH l kL_hasValue 86 12 2 12 [.ref 0, .int x1, .int x2, .ref 84] M (.inl (some (.int (nI 1)))) M' := by
  refine sph_of hf (by decide +kernel) (Nat.le_of_ble_eq_true rfl) (by intro v hv; simp at hv; rcases hv with rfl | rfl | rfl | rfl <;> rfl) ?_
  refine e_aload_3 dL_hasValue_0 rfl ?_
  refine e_iconst (v := nI 0) dL_hasValue_1 rfl ic_0 ?_
  refine e_aload_0 dL_hasValue_2 rfl ?_
  refine e_iload_1 dL_hasValue_3 rfl ?_
  refine e_iload_2 dL_hasValue_4 rfl ?_
  have hh : pmHd kL_hasValue 5 20 "java/lang/IndexOutOfBoundsException" := by
    refine ⟨[], (0, 17, 20, 19), [(0, 17, 24, 21)], rfl, fun z hz => ?_, by decide, by decide, rfl, by decide, "java/lang/IndexOutOfBoundsException", gw_of 339 (by decide +kernel) rfl, nw_of 374 (by decide +kernel) rfl⟩
    exact absurd hz List.not_mem_nil
  exact e_catch dL_hasValue_5 csL_41 hS rfl rfl ps_0 (by decide) (by decide) ⟨Nat.le_of_ble_eq_true rfl, Nat.le_of_ble_eq_true rfl⟩ ⟨Nat.le_of_ble_eq_true rfl, Nat.le_of_ble_eq_true rfl⟩ (Nat.le_of_ble_eq_true rfl) hh (Or.inr ⟨4, dL_hasValue_20, by decide, rfl⟩) dL_hasValue_22 ic_1 dL_hasValue_23 rfl ⟨Nat.le_of_ble_eq_true rfl, Nat.le_of_ble_eq_true rfl⟩
theorem w_hasValue_x2 {l : Launch} (hf : l.stackTraces = false) {M M' : pmM} {x1 x2 : Int32}  (hS : Sp l kX3_hasValue 86 11 2 12 [.ref 0, .int x1, .int x2] M (.inr "java/lang/IllegalArgumentException") M') : SpH l kL_hasValue 86 12 2 12 [.ref 0, .int x1, .int x2, .ref 84] M (.inl (some (.int (nI 2)))) M' := by
  refine sph_of hf (by decide +kernel) (Nat.le_of_ble_eq_true rfl) (by intro v hv; simp at hv; rcases hv with rfl | rfl | rfl | rfl <;> rfl) ?_
  refine e_aload_3 dL_hasValue_0 rfl ?_
  refine e_iconst (v := nI 0) dL_hasValue_1 rfl ic_0 ?_
  refine e_aload_0 dL_hasValue_2 rfl ?_
  refine e_iload_1 dL_hasValue_3 rfl ?_
  refine e_iload_2 dL_hasValue_4 rfl ?_
  have hh : pmHd kL_hasValue 5 24 "java/lang/IllegalArgumentException" := by
    refine ⟨[(0, 17, 20, 19)], (0, 17, 24, 21), [], rfl, fun z hz => ?_, by decide, by decide, rfl, by decide, "java/lang/IllegalArgumentException", gw_of 363 (by decide +kernel) rfl, nw_of 393 (by decide +kernel) rfl⟩
    rcases List.mem_cons.mp hz with rfl | hz
    · exact ⟨by decide, "java/lang/IndexOutOfBoundsException", gw_of 339 (by decide +kernel) rfl, by decide⟩
    exact absurd hz List.not_mem_nil
  exact e_catch dL_hasValue_5 csL_41 hS rfl rfl ps_0 (by decide) (by decide) ⟨Nat.le_of_ble_eq_true rfl, Nat.le_of_ble_eq_true rfl⟩ ⟨Nat.le_of_ble_eq_true rfl, Nat.le_of_ble_eq_true rfl⟩ (Nat.le_of_ble_eq_true rfl) hh (Or.inr ⟨4, dL_hasValue_24, by decide, rfl⟩) dL_hasValue_26 ic_2 dL_hasValue_27 rfl ⟨Nat.le_of_ble_eq_true rfl, Nat.le_of_ble_eq_true rfl⟩
theorem w_users_ok {l : Launch} (hf : l.stackTraces = false) {M M' : pmM} {x1 : Int32} {v : Int32} (hS : Sp l kX3_users 86 11 1 6 [.ref 0, .int x1] M (.inl (some (.int v))) M') : SpH l kL_users 86 12 1 6 [.ref 0, .int x1, .ref 84] M (.inl (some (.int (nI 0)))) (ouM M' v.toInt64) := by
  refine sph_of hf (by decide +kernel) (Nat.le_of_ble_eq_true rfl) (by intro v hv; simp at hv; rcases hv with rfl | rfl | rfl <;> rfl) ?_
  refine e_aload_2 dL_users_0 rfl ?_
  refine e_iconst (v := nI 0) dL_users_1 rfl ic_0 ?_
  refine e_aload_0 dL_users_2 rfl ?_
  refine e_iload_1 dL_users_3 rfl ?_
  refine e_callV dL_users_4 rfl csL_45 hS rfl rfl ps_0 (by decide) (by decide) ⟨Nat.le_of_ble_eq_true rfl, Nat.le_of_ble_eq_true rfl⟩ ⟨Nat.le_of_ble_eq_true rfl, Nat.le_of_ble_eq_true rfl⟩ rfl rfl (Nat.le_of_ble_eq_true rfl) ?_
  refine e_i2l dL_users_7 rfl ?_
  refine e_last dL_users_8 rfl ps_84 (by decide) rfl (by omega) ?_
  refine e_goto (tgt := 15) dL_users_9 (by decide) ?_
  refine e_iconst (v := nI 0) dL_users_15 rfl ic_0 ?_
  exact e_iret dL_users_16 rfl rfl (Nat.le_of_ble_eq_true rfl) (Nat.le_of_ble_eq_true rfl) rfl rfl
theorem w_users_x1 {l : Launch} (hf : l.stackTraces = false) {M M' : pmM} {x1 : Int32}  (hS : Sp l kX3_users 86 11 1 6 [.ref 0, .int x1] M (.inr "java/lang/IndexOutOfBoundsException") M') : SpH l kL_users 86 12 1 6 [.ref 0, .int x1, .ref 84] M (.inl (some (.int (nI 1)))) M' := by
  refine sph_of hf (by decide +kernel) (Nat.le_of_ble_eq_true rfl) (by intro v hv; simp at hv; rcases hv with rfl | rfl | rfl <;> rfl) ?_
  refine e_aload_2 dL_users_0 rfl ?_
  refine e_iconst (v := nI 0) dL_users_1 rfl ic_0 ?_
  refine e_aload_0 dL_users_2 rfl ?_
  refine e_iload_1 dL_users_3 rfl ?_
  have hh : pmHd kL_users 4 12 "java/lang/IndexOutOfBoundsException" := by
    refine ⟨[], (0, 9, 12, 19), [], rfl, fun z hz => ?_, by decide, by decide, rfl, by decide, "java/lang/IndexOutOfBoundsException", gw_of 339 (by decide +kernel) rfl, nw_of 374 (by decide +kernel) rfl⟩
    exact absurd hz List.not_mem_nil
  exact e_catch dL_users_4 csL_45 hS rfl rfl ps_0 (by decide) (by decide) ⟨Nat.le_of_ble_eq_true rfl, Nat.le_of_ble_eq_true rfl⟩ ⟨Nat.le_of_ble_eq_true rfl, Nat.le_of_ble_eq_true rfl⟩ (Nat.le_of_ble_eq_true rfl) hh (Or.inl ⟨3, dL_users_12, by decide, rfl⟩) dL_users_13 ic_1 dL_users_14 rfl ⟨Nat.le_of_ble_eq_true rfl, Nat.le_of_ble_eq_true rfl⟩
theorem w_addRule_ok {l : Launch} (hf : l.stackTraces = false) {M M' : pmM} {x1 x2 x3 x4 x5 x6 : Int32} {v : Int32} (hS : Sp l kX3_addRule 86 11 6 36 [.ref 0, .int x1, .int x2, .int x3, .int x4, .int x5, .int x6] M (.inl (some (.int v))) M') : SpH l kL_addRule 86 12 6 36 [.ref 0, .int x1, .int x2, .int x3, .int x4, .int x5, .int x6, .ref 84] M (.inl (some (.int (nI 0)))) (ouM M' v.toInt64) := by
  refine sph_of hf (by decide +kernel) (Nat.le_of_ble_eq_true rfl) (by intro v hv; simp at hv; rcases hv with rfl | rfl | rfl | rfl | rfl | rfl | rfl | rfl <;> rfl) ?_
  refine e_aload_7 dL_addRule_0 rfl ?_
  refine e_iconst (v := nI 0) dL_addRule_2 rfl ic_0 ?_
  refine e_aload_0 dL_addRule_3 rfl ?_
  refine e_iload_1 dL_addRule_4 rfl ?_
  refine e_iload_2 dL_addRule_5 rfl ?_
  refine e_iload_3 dL_addRule_6 rfl ?_
  refine e_iload_4 dL_addRule_7 rfl ?_
  refine e_iload_5 dL_addRule_9 rfl ?_
  refine e_iload_6 dL_addRule_11 rfl ?_
  refine e_callV dL_addRule_13 rfl csL_48 hS rfl rfl ps_0 (by decide) (by decide) ⟨Nat.le_of_ble_eq_true rfl, Nat.le_of_ble_eq_true rfl⟩ ⟨Nat.le_of_ble_eq_true rfl, Nat.le_of_ble_eq_true rfl⟩ rfl rfl (Nat.le_of_ble_eq_true rfl) ?_
  refine e_i2l dL_addRule_16 rfl ?_
  refine e_last dL_addRule_17 rfl ps_84 (by decide) rfl (by omega) ?_
  refine e_goto (tgt := 33) dL_addRule_18 (by decide) ?_
  refine e_iconst (v := nI 0) dL_addRule_33 rfl ic_0 ?_
  exact e_iret dL_addRule_34 rfl rfl (Nat.le_of_ble_eq_true rfl) (Nat.le_of_ble_eq_true rfl) rfl rfl
theorem w_addRule_x1 {l : Launch} (hf : l.stackTraces = false) {M M' : pmM} {x1 x2 x3 x4 x5 x6 : Int32}  (hS : Sp l kX3_addRule 86 11 6 36 [.ref 0, .int x1, .int x2, .int x3, .int x4, .int x5, .int x6] M (.inr "java/lang/IndexOutOfBoundsException") M') : SpH l kL_addRule 86 12 6 36 [.ref 0, .int x1, .int x2, .int x3, .int x4, .int x5, .int x6, .ref 84] M (.inl (some (.int (nI 1)))) M' := by
  refine sph_of hf (by decide +kernel) (Nat.le_of_ble_eq_true rfl) (by intro v hv; simp at hv; rcases hv with rfl | rfl | rfl | rfl | rfl | rfl | rfl | rfl <;> rfl) ?_
  refine e_aload_7 dL_addRule_0 rfl ?_
  refine e_iconst (v := nI 0) dL_addRule_2 rfl ic_0 ?_
  refine e_aload_0 dL_addRule_3 rfl ?_
  refine e_iload_1 dL_addRule_4 rfl ?_
  refine e_iload_2 dL_addRule_5 rfl ?_
  refine e_iload_3 dL_addRule_6 rfl ?_
  refine e_iload_4 dL_addRule_7 rfl ?_
  refine e_iload_5 dL_addRule_9 rfl ?_
  refine e_iload_6 dL_addRule_11 rfl ?_
  have hh : pmHd kL_addRule 13 21 "java/lang/IndexOutOfBoundsException" := by
    refine ⟨[], (0, 18, 21, 19), [(0, 18, 25, 21), (0, 18, 29, 13)], rfl, fun z hz => ?_, by decide, by decide, rfl, by decide, "java/lang/IndexOutOfBoundsException", gw_of 339 (by decide +kernel) rfl, nw_of 374 (by decide +kernel) rfl⟩
    exact absurd hz List.not_mem_nil
  exact e_catch dL_addRule_13 csL_48 hS rfl rfl ps_0 (by decide) (by decide) ⟨Nat.le_of_ble_eq_true rfl, Nat.le_of_ble_eq_true rfl⟩ ⟨Nat.le_of_ble_eq_true rfl, Nat.le_of_ble_eq_true rfl⟩ (Nat.le_of_ble_eq_true rfl) hh (Or.inr ⟨8, dL_addRule_21, by decide, rfl⟩) dL_addRule_23 ic_1 dL_addRule_24 rfl ⟨Nat.le_of_ble_eq_true rfl, Nat.le_of_ble_eq_true rfl⟩
theorem w_addRule_x2 {l : Launch} (hf : l.stackTraces = false) {M M' : pmM} {x1 x2 x3 x4 x5 x6 : Int32}  (hS : Sp l kX3_addRule 86 11 6 36 [.ref 0, .int x1, .int x2, .int x3, .int x4, .int x5, .int x6] M (.inr "java/lang/IllegalArgumentException") M') : SpH l kL_addRule 86 12 6 36 [.ref 0, .int x1, .int x2, .int x3, .int x4, .int x5, .int x6, .ref 84] M (.inl (some (.int (nI 2)))) M' := by
  refine sph_of hf (by decide +kernel) (Nat.le_of_ble_eq_true rfl) (by intro v hv; simp at hv; rcases hv with rfl | rfl | rfl | rfl | rfl | rfl | rfl | rfl <;> rfl) ?_
  refine e_aload_7 dL_addRule_0 rfl ?_
  refine e_iconst (v := nI 0) dL_addRule_2 rfl ic_0 ?_
  refine e_aload_0 dL_addRule_3 rfl ?_
  refine e_iload_1 dL_addRule_4 rfl ?_
  refine e_iload_2 dL_addRule_5 rfl ?_
  refine e_iload_3 dL_addRule_6 rfl ?_
  refine e_iload_4 dL_addRule_7 rfl ?_
  refine e_iload_5 dL_addRule_9 rfl ?_
  refine e_iload_6 dL_addRule_11 rfl ?_
  have hh : pmHd kL_addRule 13 25 "java/lang/IllegalArgumentException" := by
    refine ⟨[(0, 18, 21, 19)], (0, 18, 25, 21), [(0, 18, 29, 13)], rfl, fun z hz => ?_, by decide, by decide, rfl, by decide, "java/lang/IllegalArgumentException", gw_of 363 (by decide +kernel) rfl, nw_of 393 (by decide +kernel) rfl⟩
    rcases List.mem_cons.mp hz with rfl | hz
    · exact ⟨by decide, "java/lang/IndexOutOfBoundsException", gw_of 339 (by decide +kernel) rfl, by decide⟩
    exact absurd hz List.not_mem_nil
  exact e_catch dL_addRule_13 csL_48 hS rfl rfl ps_0 (by decide) (by decide) ⟨Nat.le_of_ble_eq_true rfl, Nat.le_of_ble_eq_true rfl⟩ ⟨Nat.le_of_ble_eq_true rfl, Nat.le_of_ble_eq_true rfl⟩ (Nat.le_of_ble_eq_true rfl) hh (Or.inr ⟨8, dL_addRule_25, by decide, rfl⟩) dL_addRule_27 ic_2 dL_addRule_28 rfl ⟨Nat.le_of_ble_eq_true rfl, Nat.le_of_ble_eq_true rfl⟩
theorem w_addRule_x3 {l : Launch} (hf : l.stackTraces = false) {M M' : pmM} {x1 x2 x3 x4 x5 x6 : Int32}  (hS : Sp l kX3_addRule 86 11 6 36 [.ref 0, .int x1, .int x2, .int x3, .int x4, .int x5, .int x6] M (.inr "java/lang/IllegalStateException") M') : SpH l kL_addRule 86 12 6 36 [.ref 0, .int x1, .int x2, .int x3, .int x4, .int x5, .int x6, .ref 84] M (.inl (some (.int (nI 3)))) M' := by
  refine sph_of hf (by decide +kernel) (Nat.le_of_ble_eq_true rfl) (by intro v hv; simp at hv; rcases hv with rfl | rfl | rfl | rfl | rfl | rfl | rfl | rfl <;> rfl) ?_
  refine e_aload_7 dL_addRule_0 rfl ?_
  refine e_iconst (v := nI 0) dL_addRule_2 rfl ic_0 ?_
  refine e_aload_0 dL_addRule_3 rfl ?_
  refine e_iload_1 dL_addRule_4 rfl ?_
  refine e_iload_2 dL_addRule_5 rfl ?_
  refine e_iload_3 dL_addRule_6 rfl ?_
  refine e_iload_4 dL_addRule_7 rfl ?_
  refine e_iload_5 dL_addRule_9 rfl ?_
  refine e_iload_6 dL_addRule_11 rfl ?_
  have hh : pmHd kL_addRule 13 29 "java/lang/IllegalStateException" := by
    refine ⟨[(0, 18, 21, 19), (0, 18, 25, 21)], (0, 18, 29, 13), [], rfl, fun z hz => ?_, by decide, by decide, rfl, by decide, "java/lang/IllegalStateException", gw_of 259 (by decide +kernel) rfl, nw_of 266 (by decide +kernel) rfl⟩
    rcases List.mem_cons.mp hz with rfl | hz
    · exact ⟨by decide, "java/lang/IndexOutOfBoundsException", gw_of 339 (by decide +kernel) rfl, by decide⟩
    rcases List.mem_cons.mp hz with rfl | hz
    · exact ⟨by decide, "java/lang/IllegalArgumentException", gw_of 363 (by decide +kernel) rfl, by decide⟩
    exact absurd hz List.not_mem_nil
  exact e_catch dL_addRule_13 csL_48 hS rfl rfl ps_0 (by decide) (by decide) ⟨Nat.le_of_ble_eq_true rfl, Nat.le_of_ble_eq_true rfl⟩ ⟨Nat.le_of_ble_eq_true rfl, Nat.le_of_ble_eq_true rfl⟩ (Nat.le_of_ble_eq_true rfl) hh (Or.inr ⟨8, dL_addRule_29, by decide, rfl⟩) dL_addRule_31 ic_3 dL_addRule_32 rfl ⟨Nat.le_of_ble_eq_true rfl, Nat.le_of_ble_eq_true rfl⟩
theorem w_removeRule_ok {l : Launch} (hf : l.stackTraces = false) {M M' : pmM} {x1 : Int32} {v : Int32} (hS : Sp l kX3_removeRule 86 14 1 6 [.ref 0, .int x1] M (.inl (some (.int v))) M') : SpH l kL_removeRule 86 15 1 6 [.ref 0, .int x1, .ref 84] M (.inl (some (.int (nI 0)))) (ouM M' v.toInt64) := by
  refine sph_of hf (by decide +kernel) (Nat.le_of_ble_eq_true rfl) (by intro v hv; simp at hv; rcases hv with rfl | rfl | rfl <;> rfl) ?_
  refine e_aload_2 dL_removeRule_0 rfl ?_
  refine e_iconst (v := nI 0) dL_removeRule_1 rfl ic_0 ?_
  refine e_aload_0 dL_removeRule_2 rfl ?_
  refine e_iload_1 dL_removeRule_3 rfl ?_
  refine e_callV dL_removeRule_4 rfl csL_52 hS rfl rfl ps_0 (by decide) (by decide) ⟨Nat.le_of_ble_eq_true rfl, Nat.le_of_ble_eq_true rfl⟩ ⟨Nat.le_of_ble_eq_true rfl, Nat.le_of_ble_eq_true rfl⟩ rfl rfl (Nat.le_of_ble_eq_true rfl) ?_
  refine e_i2l dL_removeRule_7 rfl ?_
  refine e_last dL_removeRule_8 rfl ps_84 (by decide) rfl (by omega) ?_
  refine e_goto (tgt := 15) dL_removeRule_9 (by decide) ?_
  refine e_iconst (v := nI 0) dL_removeRule_15 rfl ic_0 ?_
  exact e_iret dL_removeRule_16 rfl rfl (Nat.le_of_ble_eq_true rfl) (Nat.le_of_ble_eq_true rfl) rfl rfl
theorem w_removeRule_x1 {l : Launch} (hf : l.stackTraces = false) {M M' : pmM} {x1 : Int32}  (hS : Sp l kX3_removeRule 86 14 1 6 [.ref 0, .int x1] M (.inr "java/util/NoSuchElementException") M') : SpH l kL_removeRule 86 15 1 6 [.ref 0, .int x1, .ref 84] M (.inl (some (.int (nI 1)))) M' := by
  refine sph_of hf (by decide +kernel) (Nat.le_of_ble_eq_true rfl) (by intro v hv; simp at hv; rcases hv with rfl | rfl | rfl <;> rfl) ?_
  refine e_aload_2 dL_removeRule_0 rfl ?_
  refine e_iconst (v := nI 0) dL_removeRule_1 rfl ic_0 ?_
  refine e_aload_0 dL_removeRule_2 rfl ?_
  refine e_iload_1 dL_removeRule_3 rfl ?_
  have hh : pmHd kL_removeRule 4 12 "java/util/NoSuchElementException" := by
    refine ⟨[], (0, 9, 12, 36), [], rfl, fun z hz => ?_, by decide, by decide, rfl, by decide, "java/util/NoSuchElementException", gw_of 466 (by decide +kernel) rfl, nw_of 473 (by decide +kernel) rfl⟩
    exact absurd hz List.not_mem_nil
  exact e_catch dL_removeRule_4 csL_52 hS rfl rfl ps_0 (by decide) (by decide) ⟨Nat.le_of_ble_eq_true rfl, Nat.le_of_ble_eq_true rfl⟩ ⟨Nat.le_of_ble_eq_true rfl, Nat.le_of_ble_eq_true rfl⟩ (Nat.le_of_ble_eq_true rfl) hh (Or.inl ⟨3, dL_removeRule_12, by decide, rfl⟩) dL_removeRule_13 ic_1 dL_removeRule_14 rfl ⟨Nat.le_of_ble_eq_true rfl, Nat.le_of_ble_eq_true rfl⟩
theorem w_setLastDay_ok {l : Launch} (hf : l.stackTraces = false) {M M' : pmM} {x1 x2 : Int32} {v : Int32} (hS : Sp l kX3_setLastDay 86 2 2 12 [.ref 0, .int x1, .int x2] M (.inl (some (.int v))) M') : SpH l kL_setLastDay 86 3 2 12 [.ref 0, .int x1, .int x2, .ref 84] M (.inl (some (.int (nI 0)))) (ouM M' v.toInt64) := by
  refine sph_of hf (by decide +kernel) (Nat.le_of_ble_eq_true rfl) (by intro v hv; simp at hv; rcases hv with rfl | rfl | rfl | rfl <;> rfl) ?_
  refine e_aload_3 dL_setLastDay_0 rfl ?_
  refine e_iconst (v := nI 0) dL_setLastDay_1 rfl ic_0 ?_
  refine e_aload_0 dL_setLastDay_2 rfl ?_
  refine e_iload_1 dL_setLastDay_3 rfl ?_
  refine e_iload_2 dL_setLastDay_4 rfl ?_
  refine e_callV dL_setLastDay_5 rfl csL_55 hS rfl rfl ps_0 (by decide) (by decide) ⟨Nat.le_of_ble_eq_true rfl, Nat.le_of_ble_eq_true rfl⟩ ⟨Nat.le_of_ble_eq_true rfl, Nat.le_of_ble_eq_true rfl⟩ rfl rfl (Nat.le_of_ble_eq_true rfl) ?_
  refine e_i2l dL_setLastDay_8 rfl ?_
  refine e_last dL_setLastDay_9 rfl ps_84 (by decide) rfl (by omega) ?_
  refine e_goto (tgt := 21) dL_setLastDay_10 (by decide) ?_
  refine e_iconst (v := nI 0) dL_setLastDay_21 rfl ic_0 ?_
  exact e_iret dL_setLastDay_22 rfl rfl (Nat.le_of_ble_eq_true rfl) (Nat.le_of_ble_eq_true rfl) rfl rfl
theorem w_setLastDay_x1 {l : Launch} (hf : l.stackTraces = false) {M M' : pmM} {x1 x2 : Int32}  (hS : Sp l kX3_setLastDay 86 2 2 12 [.ref 0, .int x1, .int x2] M (.inr "java/util/NoSuchElementException") M') : SpH l kL_setLastDay 86 3 2 12 [.ref 0, .int x1, .int x2, .ref 84] M (.inl (some (.int (nI 1)))) M' := by
  refine sph_of hf (by decide +kernel) (Nat.le_of_ble_eq_true rfl) (by intro v hv; simp at hv; rcases hv with rfl | rfl | rfl | rfl <;> rfl) ?_
  refine e_aload_3 dL_setLastDay_0 rfl ?_
  refine e_iconst (v := nI 0) dL_setLastDay_1 rfl ic_0 ?_
  refine e_aload_0 dL_setLastDay_2 rfl ?_
  refine e_iload_1 dL_setLastDay_3 rfl ?_
  refine e_iload_2 dL_setLastDay_4 rfl ?_
  have hh : pmHd kL_setLastDay 5 13 "java/util/NoSuchElementException" := by
    refine ⟨[], (0, 10, 13, 36), [(0, 10, 17, 21)], rfl, fun z hz => ?_, by decide, by decide, rfl, by decide, "java/util/NoSuchElementException", gw_of 466 (by decide +kernel) rfl, nw_of 473 (by decide +kernel) rfl⟩
    exact absurd hz List.not_mem_nil
  exact e_catch dL_setLastDay_5 csL_55 hS rfl rfl ps_0 (by decide) (by decide) ⟨Nat.le_of_ble_eq_true rfl, Nat.le_of_ble_eq_true rfl⟩ ⟨Nat.le_of_ble_eq_true rfl, Nat.le_of_ble_eq_true rfl⟩ (Nat.le_of_ble_eq_true rfl) hh (Or.inr ⟨4, dL_setLastDay_13, by decide, rfl⟩) dL_setLastDay_15 ic_1 dL_setLastDay_16 rfl ⟨Nat.le_of_ble_eq_true rfl, Nat.le_of_ble_eq_true rfl⟩
theorem w_setLastDay_x2 {l : Launch} (hf : l.stackTraces = false) {M M' : pmM} {x1 x2 : Int32}  (hS : Sp l kX3_setLastDay 86 2 2 12 [.ref 0, .int x1, .int x2] M (.inr "java/lang/IllegalArgumentException") M') : SpH l kL_setLastDay 86 3 2 12 [.ref 0, .int x1, .int x2, .ref 84] M (.inl (some (.int (nI 2)))) M' := by
  refine sph_of hf (by decide +kernel) (Nat.le_of_ble_eq_true rfl) (by intro v hv; simp at hv; rcases hv with rfl | rfl | rfl | rfl <;> rfl) ?_
  refine e_aload_3 dL_setLastDay_0 rfl ?_
  refine e_iconst (v := nI 0) dL_setLastDay_1 rfl ic_0 ?_
  refine e_aload_0 dL_setLastDay_2 rfl ?_
  refine e_iload_1 dL_setLastDay_3 rfl ?_
  refine e_iload_2 dL_setLastDay_4 rfl ?_
  have hh : pmHd kL_setLastDay 5 17 "java/lang/IllegalArgumentException" := by
    refine ⟨[(0, 10, 13, 36)], (0, 10, 17, 21), [], rfl, fun z hz => ?_, by decide, by decide, rfl, by decide, "java/lang/IllegalArgumentException", gw_of 363 (by decide +kernel) rfl, nw_of 393 (by decide +kernel) rfl⟩
    rcases List.mem_cons.mp hz with rfl | hz
    · exact ⟨by decide, "java/util/NoSuchElementException", gw_of 466 (by decide +kernel) rfl, by decide⟩
    exact absurd hz List.not_mem_nil
  exact e_catch dL_setLastDay_5 csL_55 hS rfl rfl ps_0 (by decide) (by decide) ⟨Nat.le_of_ble_eq_true rfl, Nat.le_of_ble_eq_true rfl⟩ ⟨Nat.le_of_ble_eq_true rfl, Nat.le_of_ble_eq_true rfl⟩ (Nat.le_of_ble_eq_true rfl) hh (Or.inr ⟨4, dL_setLastDay_17, by decide, rfl⟩) dL_setLastDay_19 ic_2 dL_setLastDay_20 rfl ⟨Nat.le_of_ble_eq_true rfl, Nat.le_of_ble_eq_true rfl⟩
theorem w_ruleAt_ok {l : Launch} (hf : l.stackTraces = false) {M M' : pmM} {x1 : Int32} {v : Int32} (hS : Sp l kX3_ruleAt 86 2 1 6 [.ref 0, .int x1] M (.inl (some (.int v))) M') : SpH l kL_ruleAt 86 3 1 6 [.ref 0, .int x1, .ref 84] M (.inl (some (.int (nI 0)))) (ouM M' v.toInt64) := by
  refine sph_of hf (by decide +kernel) (Nat.le_of_ble_eq_true rfl) (by intro v hv; simp at hv; rcases hv with rfl | rfl | rfl <;> rfl) ?_
  refine e_aload_2 dL_ruleAt_0 rfl ?_
  refine e_iconst (v := nI 0) dL_ruleAt_1 rfl ic_0 ?_
  refine e_aload_0 dL_ruleAt_2 rfl ?_
  refine e_iload_1 dL_ruleAt_3 rfl ?_
  refine e_callV dL_ruleAt_4 rfl csL_58 hS rfl rfl ps_0 (by decide) (by decide) ⟨Nat.le_of_ble_eq_true rfl, Nat.le_of_ble_eq_true rfl⟩ ⟨Nat.le_of_ble_eq_true rfl, Nat.le_of_ble_eq_true rfl⟩ rfl rfl (Nat.le_of_ble_eq_true rfl) ?_
  refine e_i2l dL_ruleAt_7 rfl ?_
  refine e_last dL_ruleAt_8 rfl ps_84 (by decide) rfl (by omega) ?_
  refine e_goto (tgt := 15) dL_ruleAt_9 (by decide) ?_
  refine e_iconst (v := nI 0) dL_ruleAt_15 rfl ic_0 ?_
  exact e_iret dL_ruleAt_16 rfl rfl (Nat.le_of_ble_eq_true rfl) (Nat.le_of_ble_eq_true rfl) rfl rfl
theorem w_ruleAt_x1 {l : Launch} (hf : l.stackTraces = false) {M M' : pmM} {x1 : Int32}  (hS : Sp l kX3_ruleAt 86 2 1 6 [.ref 0, .int x1] M (.inr "java/lang/IndexOutOfBoundsException") M') : SpH l kL_ruleAt 86 3 1 6 [.ref 0, .int x1, .ref 84] M (.inl (some (.int (nI 1)))) M' := by
  refine sph_of hf (by decide +kernel) (Nat.le_of_ble_eq_true rfl) (by intro v hv; simp at hv; rcases hv with rfl | rfl | rfl <;> rfl) ?_
  refine e_aload_2 dL_ruleAt_0 rfl ?_
  refine e_iconst (v := nI 0) dL_ruleAt_1 rfl ic_0 ?_
  refine e_aload_0 dL_ruleAt_2 rfl ?_
  refine e_iload_1 dL_ruleAt_3 rfl ?_
  have hh : pmHd kL_ruleAt 4 12 "java/lang/IndexOutOfBoundsException" := by
    refine ⟨[], (0, 9, 12, 19), [], rfl, fun z hz => ?_, by decide, by decide, rfl, by decide, "java/lang/IndexOutOfBoundsException", gw_of 339 (by decide +kernel) rfl, nw_of 374 (by decide +kernel) rfl⟩
    exact absurd hz List.not_mem_nil
  exact e_catch dL_ruleAt_4 csL_58 hS rfl rfl ps_0 (by decide) (by decide) ⟨Nat.le_of_ble_eq_true rfl, Nat.le_of_ble_eq_true rfl⟩ ⟨Nat.le_of_ble_eq_true rfl, Nat.le_of_ble_eq_true rfl⟩ (Nat.le_of_ble_eq_true rfl) hh (Or.inl ⟨3, dL_ruleAt_12, by decide, rfl⟩) dL_ruleAt_13 ic_1 dL_ruleAt_14 rfl ⟨Nat.le_of_ble_eq_true rfl, Nat.le_of_ble_eq_true rfl⟩
theorem w_isInForce_ok {l : Launch} (hf : l.stackTraces = false) {M M' : pmM} {x1 : Int32} {b : Bool} (hS : Sp l kX3_isInForce 86 2 1 6 [.ref 0, .int x1] M (.inl (some (.int (bI b)))) M') : SpH l kL_isInForce 86 3 1 6 [.ref 0, .int x1, .ref 84] M (.inl (some (.int (nI 0)))) (ouM M' (bL b)) := by
  refine sph_of hf (by decide +kernel) (Nat.le_of_ble_eq_true rfl) (by intro v hv; simp at hv; rcases hv with rfl | rfl | rfl <;> rfl) ?_
  refine e_aload_2 dL_isInForce_0 rfl ?_
  refine e_iconst (v := nI 0) dL_isInForce_1 rfl ic_0 ?_
  refine e_aload_0 dL_isInForce_2 rfl ?_
  refine e_iload_1 dL_isInForce_3 rfl ?_
  refine e_callV dL_isInForce_4 rfl csL_61 hS rfl rfl ps_0 (by decide) (by decide) ⟨Nat.le_of_ble_eq_true rfl, Nat.le_of_ble_eq_true rfl⟩ ⟨Nat.le_of_ble_eq_true rfl, Nat.le_of_ble_eq_true rfl⟩ rfl rfl (Nat.le_of_ble_eq_true rfl) ?_
  cases b with
  | false =>
    refine e_if_eq_t (tgt := 14) dL_isInForce_7 (by decide) (bI0 rfl) ?_
    refine e_lconst (v := 0) dL_isInForce_14 rfl rfl ?_
    refine e_last dL_isInForce_15 rfl ps_84 (by decide) rfl (by omega) ?_
    refine e_goto (tgt := 22) dL_isInForce_16 (by decide) ?_
    refine e_iconst (v := nI 0) dL_isInForce_22 rfl ic_0 ?_
    exact e_iret dL_isInForce_23 rfl rfl (Nat.le_of_ble_eq_true rfl) (Nat.le_of_ble_eq_true rfl) rfl rfl
  | true =>
    refine e_if_eq_f dL_isInForce_7 rfl ⟨14, by decide⟩ (bI1 rfl) ?_
    refine e_lconst (v := 1) dL_isInForce_10 rfl rfl ?_
    refine e_goto (tgt := 15) dL_isInForce_11 (by decide) ?_
    refine e_last dL_isInForce_15 rfl ps_84 (by decide) rfl (by omega) ?_
    refine e_goto (tgt := 22) dL_isInForce_16 (by decide) ?_
    refine e_iconst (v := nI 0) dL_isInForce_22 rfl ic_0 ?_
    exact e_iret dL_isInForce_23 rfl rfl (Nat.le_of_ble_eq_true rfl) (Nat.le_of_ble_eq_true rfl) rfl rfl
theorem w_isInForce_x1 {l : Launch} (hf : l.stackTraces = false) {M M' : pmM} {x1 : Int32}  (hS : Sp l kX3_isInForce 86 2 1 6 [.ref 0, .int x1] M (.inr "java/util/NoSuchElementException") M') : SpH l kL_isInForce 86 3 1 6 [.ref 0, .int x1, .ref 84] M (.inl (some (.int (nI 1)))) M' := by
  refine sph_of hf (by decide +kernel) (Nat.le_of_ble_eq_true rfl) (by intro v hv; simp at hv; rcases hv with rfl | rfl | rfl <;> rfl) ?_
  refine e_aload_2 dL_isInForce_0 rfl ?_
  refine e_iconst (v := nI 0) dL_isInForce_1 rfl ic_0 ?_
  refine e_aload_0 dL_isInForce_2 rfl ?_
  refine e_iload_1 dL_isInForce_3 rfl ?_
  have hh : pmHd kL_isInForce 4 19 "java/util/NoSuchElementException" := by
    refine ⟨[], (0, 16, 19, 36), [], rfl, fun z hz => ?_, by decide, by decide, rfl, by decide, "java/util/NoSuchElementException", gw_of 466 (by decide +kernel) rfl, nw_of 473 (by decide +kernel) rfl⟩
    exact absurd hz List.not_mem_nil
  exact e_catch dL_isInForce_4 csL_61 hS rfl rfl ps_0 (by decide) (by decide) ⟨Nat.le_of_ble_eq_true rfl, Nat.le_of_ble_eq_true rfl⟩ ⟨Nat.le_of_ble_eq_true rfl, Nat.le_of_ble_eq_true rfl⟩ (Nat.le_of_ble_eq_true rfl) hh (Or.inl ⟨3, dL_isInForce_19, by decide, rfl⟩) dL_isInForce_20 ic_1 dL_isInForce_21 rfl ⟨Nat.le_of_ble_eq_true rfl, Nat.le_of_ble_eq_true rfl⟩
theorem w_expiring_ok {l : Launch} (hf : l.stackTraces = false) {M M' : pmM} {x1 x2 : Int32} {v : Int32} (hS : Sp l kX3_expiring 86 2 2 12 [.ref 0, .int x1, .int x2] M (.inl (some (.int v))) M') : SpH l kL_expiring 86 3 2 12 [.ref 0, .int x1, .int x2, .ref 84] M (.inl (some (.int (nI 0)))) (ouM M' v.toInt64) := by
  refine sph_of hf (by decide +kernel) (Nat.le_of_ble_eq_true rfl) (by intro v hv; simp at hv; rcases hv with rfl | rfl | rfl | rfl <;> rfl) ?_
  refine e_aload_3 dL_expiring_0 rfl ?_
  refine e_iconst (v := nI 0) dL_expiring_1 rfl ic_0 ?_
  refine e_aload_0 dL_expiring_2 rfl ?_
  refine e_iload_1 dL_expiring_3 rfl ?_
  refine e_iload_2 dL_expiring_4 rfl ?_
  refine e_callV dL_expiring_5 rfl csL_65 hS rfl rfl ps_0 (by decide) (by decide) ⟨Nat.le_of_ble_eq_true rfl, Nat.le_of_ble_eq_true rfl⟩ ⟨Nat.le_of_ble_eq_true rfl, Nat.le_of_ble_eq_true rfl⟩ rfl rfl (Nat.le_of_ble_eq_true rfl) ?_
  refine e_i2l dL_expiring_8 rfl ?_
  refine e_last dL_expiring_9 rfl ps_84 (by decide) rfl (by omega) ?_
  refine e_goto (tgt := 17) dL_expiring_10 (by decide) ?_
  refine e_iconst (v := nI 0) dL_expiring_17 rfl ic_0 ?_
  exact e_iret dL_expiring_18 rfl rfl (Nat.le_of_ble_eq_true rfl) (Nat.le_of_ble_eq_true rfl) rfl rfl
theorem w_expiring_x1 {l : Launch} (hf : l.stackTraces = false) {M M' : pmM} {x1 x2 : Int32}  (hS : Sp l kX3_expiring 86 2 2 12 [.ref 0, .int x1, .int x2] M (.inr "java/lang/IllegalArgumentException") M') : SpH l kL_expiring 86 3 2 12 [.ref 0, .int x1, .int x2, .ref 84] M (.inl (some (.int (nI 1)))) M' := by
  refine sph_of hf (by decide +kernel) (Nat.le_of_ble_eq_true rfl) (by intro v hv; simp at hv; rcases hv with rfl | rfl | rfl | rfl <;> rfl) ?_
  refine e_aload_3 dL_expiring_0 rfl ?_
  refine e_iconst (v := nI 0) dL_expiring_1 rfl ic_0 ?_
  refine e_aload_0 dL_expiring_2 rfl ?_
  refine e_iload_1 dL_expiring_3 rfl ?_
  refine e_iload_2 dL_expiring_4 rfl ?_
  have hh : pmHd kL_expiring 5 13 "java/lang/IllegalArgumentException" := by
    refine ⟨[], (0, 10, 13, 21), [], rfl, fun z hz => ?_, by decide, by decide, rfl, by decide, "java/lang/IllegalArgumentException", gw_of 363 (by decide +kernel) rfl, nw_of 393 (by decide +kernel) rfl⟩
    exact absurd hz List.not_mem_nil
  exact e_catch dL_expiring_5 csL_65 hS rfl rfl ps_0 (by decide) (by decide) ⟨Nat.le_of_ble_eq_true rfl, Nat.le_of_ble_eq_true rfl⟩ ⟨Nat.le_of_ble_eq_true rfl, Nat.le_of_ble_eq_true rfl⟩ (Nat.le_of_ble_eq_true rfl) hh (Or.inr ⟨4, dL_expiring_13, by decide, rfl⟩) dL_expiring_15 ic_1 dL_expiring_16 rfl ⟨Nat.le_of_ble_eq_true rfl, Nat.le_of_ble_eq_true rfl⟩
theorem w_packet_ok {l : Launch} (hf : l.stackTraces = false) {M M' : pmM} {x1 x2 x3 : Int32} {v : Int32} (hS : Sp l kX3_packet 86 3 3 18 [.ref 0, .int x1, .int x2, .int x3] M (.inl (some (.int v))) M') : SpH l kL_packet 86 4 3 18 [.ref 0, .int x1, .int x2, .int x3, .ref 84] M (.inl (some (.int (nI 0)))) (ouM M' v.toInt64) := by
  refine sph_of hf (by decide +kernel) (Nat.le_of_ble_eq_true rfl) (by intro v hv; simp at hv; rcases hv with rfl | rfl | rfl | rfl | rfl <;> rfl) ?_
  refine e_aload_4 dL_packet_0 rfl ?_
  refine e_iconst (v := nI 0) dL_packet_2 rfl ic_0 ?_
  refine e_aload_0 dL_packet_3 rfl ?_
  refine e_iload_1 dL_packet_4 rfl ?_
  refine e_iload_2 dL_packet_5 rfl ?_
  refine e_iload_3 dL_packet_6 rfl ?_
  refine e_callV dL_packet_7 rfl csL_68 hS rfl rfl ps_0 (by decide) (by decide) ⟨Nat.le_of_ble_eq_true rfl, Nat.le_of_ble_eq_true rfl⟩ ⟨Nat.le_of_ble_eq_true rfl, Nat.le_of_ble_eq_true rfl⟩ rfl rfl (Nat.le_of_ble_eq_true rfl) ?_
  refine e_i2l dL_packet_10 rfl ?_
  refine e_last dL_packet_11 rfl ps_84 (by decide) rfl (by omega) ?_
  refine e_goto (tgt := 19) dL_packet_12 (by decide) ?_
  refine e_iconst (v := nI 0) dL_packet_19 rfl ic_0 ?_
  exact e_iret dL_packet_20 rfl rfl (Nat.le_of_ble_eq_true rfl) (Nat.le_of_ble_eq_true rfl) rfl rfl
theorem w_packet_x1 {l : Launch} (hf : l.stackTraces = false) {M M' : pmM} {x1 x2 x3 : Int32}  (hS : Sp l kX3_packet 86 3 3 18 [.ref 0, .int x1, .int x2, .int x3] M (.inr "java/lang/IllegalArgumentException") M') : SpH l kL_packet 86 4 3 18 [.ref 0, .int x1, .int x2, .int x3, .ref 84] M (.inl (some (.int (nI 1)))) M' := by
  refine sph_of hf (by decide +kernel) (Nat.le_of_ble_eq_true rfl) (by intro v hv; simp at hv; rcases hv with rfl | rfl | rfl | rfl | rfl <;> rfl) ?_
  refine e_aload_4 dL_packet_0 rfl ?_
  refine e_iconst (v := nI 0) dL_packet_2 rfl ic_0 ?_
  refine e_aload_0 dL_packet_3 rfl ?_
  refine e_iload_1 dL_packet_4 rfl ?_
  refine e_iload_2 dL_packet_5 rfl ?_
  refine e_iload_3 dL_packet_6 rfl ?_
  have hh : pmHd kL_packet 7 15 "java/lang/IllegalArgumentException" := by
    refine ⟨[], (0, 12, 15, 21), [], rfl, fun z hz => ?_, by decide, by decide, rfl, by decide, "java/lang/IllegalArgumentException", gw_of 363 (by decide +kernel) rfl, nw_of 393 (by decide +kernel) rfl⟩
    exact absurd hz List.not_mem_nil
  exact e_catch dL_packet_7 csL_68 hS rfl rfl ps_0 (by decide) (by decide) ⟨Nat.le_of_ble_eq_true rfl, Nat.le_of_ble_eq_true rfl⟩ ⟨Nat.le_of_ble_eq_true rfl, Nat.le_of_ble_eq_true rfl⟩ (Nat.le_of_ble_eq_true rfl) hh (Or.inr ⟨5, dL_packet_15, by decide, rfl⟩) dL_packet_17 ic_1 dL_packet_18 rfl ⟨Nat.le_of_ble_eq_true rfl, Nat.le_of_ble_eq_true rfl⟩
theorem w_decider_ok {l : Launch} (hf : l.stackTraces = false) {M M' : pmM} {x1 x2 x3 : Int32} {v : Int32} (hS : Sp l kX3_decider 86 3 3 18 [.ref 0, .int x1, .int x2, .int x3] M (.inl (some (.int v))) M') : SpH l kL_decider 86 4 3 18 [.ref 0, .int x1, .int x2, .int x3, .ref 84] M (.inl (some (.int (nI 0)))) (ouM M' v.toInt64) := by
  refine sph_of hf (by decide +kernel) (Nat.le_of_ble_eq_true rfl) (by intro v hv; simp at hv; rcases hv with rfl | rfl | rfl | rfl | rfl <;> rfl) ?_
  refine e_aload_4 dL_decider_0 rfl ?_
  refine e_iconst (v := nI 0) dL_decider_2 rfl ic_0 ?_
  refine e_aload_0 dL_decider_3 rfl ?_
  refine e_iload_1 dL_decider_4 rfl ?_
  refine e_iload_2 dL_decider_5 rfl ?_
  refine e_iload_3 dL_decider_6 rfl ?_
  refine e_callV dL_decider_7 rfl csL_72 hS rfl rfl ps_0 (by decide) (by decide) ⟨Nat.le_of_ble_eq_true rfl, Nat.le_of_ble_eq_true rfl⟩ ⟨Nat.le_of_ble_eq_true rfl, Nat.le_of_ble_eq_true rfl⟩ rfl rfl (Nat.le_of_ble_eq_true rfl) ?_
  refine e_i2l dL_decider_10 rfl ?_
  refine e_last dL_decider_11 rfl ps_84 (by decide) rfl (by omega) ?_
  refine e_goto (tgt := 19) dL_decider_12 (by decide) ?_
  refine e_iconst (v := nI 0) dL_decider_19 rfl ic_0 ?_
  exact e_iret dL_decider_20 rfl rfl (Nat.le_of_ble_eq_true rfl) (Nat.le_of_ble_eq_true rfl) rfl rfl
theorem w_decider_x1 {l : Launch} (hf : l.stackTraces = false) {M M' : pmM} {x1 x2 x3 : Int32}  (hS : Sp l kX3_decider 86 3 3 18 [.ref 0, .int x1, .int x2, .int x3] M (.inr "java/lang/IllegalArgumentException") M') : SpH l kL_decider 86 4 3 18 [.ref 0, .int x1, .int x2, .int x3, .ref 84] M (.inl (some (.int (nI 1)))) M' := by
  refine sph_of hf (by decide +kernel) (Nat.le_of_ble_eq_true rfl) (by intro v hv; simp at hv; rcases hv with rfl | rfl | rfl | rfl | rfl <;> rfl) ?_
  refine e_aload_4 dL_decider_0 rfl ?_
  refine e_iconst (v := nI 0) dL_decider_2 rfl ic_0 ?_
  refine e_aload_0 dL_decider_3 rfl ?_
  refine e_iload_1 dL_decider_4 rfl ?_
  refine e_iload_2 dL_decider_5 rfl ?_
  refine e_iload_3 dL_decider_6 rfl ?_
  have hh : pmHd kL_decider 7 15 "java/lang/IllegalArgumentException" := by
    refine ⟨[], (0, 12, 15, 21), [], rfl, fun z hz => ?_, by decide, by decide, rfl, by decide, "java/lang/IllegalArgumentException", gw_of 363 (by decide +kernel) rfl, nw_of 393 (by decide +kernel) rfl⟩
    exact absurd hz List.not_mem_nil
  exact e_catch dL_decider_7 csL_72 hS rfl rfl ps_0 (by decide) (by decide) ⟨Nat.le_of_ble_eq_true rfl, Nat.le_of_ble_eq_true rfl⟩ ⟨Nat.le_of_ble_eq_true rfl, Nat.le_of_ble_eq_true rfl⟩ (Nat.le_of_ble_eq_true rfl) hh (Or.inr ⟨5, dL_decider_15, by decide, rfl⟩) dL_decider_17 ic_1 dL_decider_18 rfl ⟨Nat.le_of_ble_eq_true rfl, Nat.le_of_ble_eq_true rfl⟩
theorem w_hits_ok {l : Launch} (hf : l.stackTraces = false) {M M' : pmM} {x1 : Int32} {v : Int32} (hS : Sp l kX3_hits 86 2 1 6 [.ref 0, .int x1] M (.inl (some (.int v))) M') : SpH l kL_hits 86 3 1 6 [.ref 0, .int x1, .ref 84] M (.inl (some (.int (nI 0)))) (ouM M' v.toInt64) := by
  refine sph_of hf (by decide +kernel) (Nat.le_of_ble_eq_true rfl) (by intro v hv; simp at hv; rcases hv with rfl | rfl | rfl <;> rfl) ?_
  refine e_aload_2 dL_hits_0 rfl ?_
  refine e_iconst (v := nI 0) dL_hits_1 rfl ic_0 ?_
  refine e_aload_0 dL_hits_2 rfl ?_
  refine e_iload_1 dL_hits_3 rfl ?_
  refine e_callV dL_hits_4 rfl csL_75 hS rfl rfl ps_0 (by decide) (by decide) ⟨Nat.le_of_ble_eq_true rfl, Nat.le_of_ble_eq_true rfl⟩ ⟨Nat.le_of_ble_eq_true rfl, Nat.le_of_ble_eq_true rfl⟩ rfl rfl (Nat.le_of_ble_eq_true rfl) ?_
  refine e_i2l dL_hits_7 rfl ?_
  refine e_last dL_hits_8 rfl ps_84 (by decide) rfl (by omega) ?_
  refine e_goto (tgt := 15) dL_hits_9 (by decide) ?_
  refine e_iconst (v := nI 0) dL_hits_15 rfl ic_0 ?_
  exact e_iret dL_hits_16 rfl rfl (Nat.le_of_ble_eq_true rfl) (Nat.le_of_ble_eq_true rfl) rfl rfl
theorem w_hits_x1 {l : Launch} (hf : l.stackTraces = false) {M M' : pmM} {x1 : Int32}  (hS : Sp l kX3_hits 86 2 1 6 [.ref 0, .int x1] M (.inr "java/util/NoSuchElementException") M') : SpH l kL_hits 86 3 1 6 [.ref 0, .int x1, .ref 84] M (.inl (some (.int (nI 1)))) M' := by
  refine sph_of hf (by decide +kernel) (Nat.le_of_ble_eq_true rfl) (by intro v hv; simp at hv; rcases hv with rfl | rfl | rfl <;> rfl) ?_
  refine e_aload_2 dL_hits_0 rfl ?_
  refine e_iconst (v := nI 0) dL_hits_1 rfl ic_0 ?_
  refine e_aload_0 dL_hits_2 rfl ?_
  refine e_iload_1 dL_hits_3 rfl ?_
  have hh : pmHd kL_hits 4 12 "java/util/NoSuchElementException" := by
    refine ⟨[], (0, 9, 12, 36), [], rfl, fun z hz => ?_, by decide, by decide, rfl, by decide, "java/util/NoSuchElementException", gw_of 466 (by decide +kernel) rfl, nw_of 473 (by decide +kernel) rfl⟩
    exact absurd hz List.not_mem_nil
  exact e_catch dL_hits_4 csL_75 hS rfl rfl ps_0 (by decide) (by decide) ⟨Nat.le_of_ble_eq_true rfl, Nat.le_of_ble_eq_true rfl⟩ ⟨Nat.le_of_ble_eq_true rfl, Nat.le_of_ble_eq_true rfl⟩ (Nat.le_of_ble_eq_true rfl) hh (Or.inl ⟨3, dL_hits_12, by decide, rfl⟩) dL_hits_13 ic_1 dL_hits_14 rfl ⟨Nat.le_of_ble_eq_true rfl, Nat.le_of_ble_eq_true rfl⟩
theorem w_busyDays_ok {l : Launch} (hf : l.stackTraces = false) {M M' : pmM} {x1 : Int32} {v : Int32} (hS : Sp l kX3_busyDays 86 2 1 6 [.ref 0, .int x1] M (.inl (some (.int v))) M') : SpH l kL_busyDays 86 3 1 6 [.ref 0, .int x1, .ref 84] M (.inl (some (.int (nI 0)))) (ouM M' v.toInt64) := by
  refine sph_of hf (by decide +kernel) (Nat.le_of_ble_eq_true rfl) (by intro v hv; simp at hv; rcases hv with rfl | rfl | rfl <;> rfl) ?_
  refine e_aload_2 dL_busyDays_0 rfl ?_
  refine e_iconst (v := nI 0) dL_busyDays_1 rfl ic_0 ?_
  refine e_aload_0 dL_busyDays_2 rfl ?_
  refine e_iload_1 dL_busyDays_3 rfl ?_
  refine e_callV dL_busyDays_4 rfl csL_78 hS rfl rfl ps_0 (by decide) (by decide) ⟨Nat.le_of_ble_eq_true rfl, Nat.le_of_ble_eq_true rfl⟩ ⟨Nat.le_of_ble_eq_true rfl, Nat.le_of_ble_eq_true rfl⟩ rfl rfl (Nat.le_of_ble_eq_true rfl) ?_
  refine e_i2l dL_busyDays_7 rfl ?_
  refine e_last dL_busyDays_8 rfl ps_84 (by decide) rfl (by omega) ?_
  refine e_goto (tgt := 15) dL_busyDays_9 (by decide) ?_
  refine e_iconst (v := nI 0) dL_busyDays_15 rfl ic_0 ?_
  exact e_iret dL_busyDays_16 rfl rfl (Nat.le_of_ble_eq_true rfl) (Nat.le_of_ble_eq_true rfl) rfl rfl
theorem w_busyDays_x1 {l : Launch} (hf : l.stackTraces = false) {M M' : pmM} {x1 : Int32}  (hS : Sp l kX3_busyDays 86 2 1 6 [.ref 0, .int x1] M (.inr "java/util/NoSuchElementException") M') : SpH l kL_busyDays 86 3 1 6 [.ref 0, .int x1, .ref 84] M (.inl (some (.int (nI 1)))) M' := by
  refine sph_of hf (by decide +kernel) (Nat.le_of_ble_eq_true rfl) (by intro v hv; simp at hv; rcases hv with rfl | rfl | rfl <;> rfl) ?_
  refine e_aload_2 dL_busyDays_0 rfl ?_
  refine e_iconst (v := nI 0) dL_busyDays_1 rfl ic_0 ?_
  refine e_aload_0 dL_busyDays_2 rfl ?_
  refine e_iload_1 dL_busyDays_3 rfl ?_
  have hh : pmHd kL_busyDays 4 12 "java/util/NoSuchElementException" := by
    refine ⟨[], (0, 9, 12, 36), [], rfl, fun z hz => ?_, by decide, by decide, rfl, by decide, "java/util/NoSuchElementException", gw_of 466 (by decide +kernel) rfl, nw_of 473 (by decide +kernel) rfl⟩
    exact absurd hz List.not_mem_nil
  exact e_catch dL_busyDays_4 csL_78 hS rfl rfl ps_0 (by decide) (by decide) ⟨Nat.le_of_ble_eq_true rfl, Nat.le_of_ble_eq_true rfl⟩ ⟨Nat.le_of_ble_eq_true rfl, Nat.le_of_ble_eq_true rfl⟩ (Nat.le_of_ble_eq_true rfl) hh (Or.inl ⟨3, dL_busyDays_12, by decide, rfl⟩) dL_busyDays_13 ic_1 dL_busyDays_14 rfl ⟨Nat.le_of_ble_eq_true rfl, Nat.le_of_ble_eq_true rfl⟩
theorem w_idleDays_ok {l : Launch} (hf : l.stackTraces = false) {M M' : pmM} {x1 : Int32} {v : Int32} (hS : Sp l kX3_idleDays 86 2 1 6 [.ref 0, .int x1] M (.inl (some (.int v))) M') : SpH l kL_idleDays 86 3 1 6 [.ref 0, .int x1, .ref 84] M (.inl (some (.int (nI 0)))) (ouM M' v.toInt64) := by
  refine sph_of hf (by decide +kernel) (Nat.le_of_ble_eq_true rfl) (by intro v hv; simp at hv; rcases hv with rfl | rfl | rfl <;> rfl) ?_
  refine e_aload_2 dL_idleDays_0 rfl ?_
  refine e_iconst (v := nI 0) dL_idleDays_1 rfl ic_0 ?_
  refine e_aload_0 dL_idleDays_2 rfl ?_
  refine e_iload_1 dL_idleDays_3 rfl ?_
  refine e_callV dL_idleDays_4 rfl csL_81 hS rfl rfl ps_0 (by decide) (by decide) ⟨Nat.le_of_ble_eq_true rfl, Nat.le_of_ble_eq_true rfl⟩ ⟨Nat.le_of_ble_eq_true rfl, Nat.le_of_ble_eq_true rfl⟩ rfl rfl (Nat.le_of_ble_eq_true rfl) ?_
  refine e_i2l dL_idleDays_7 rfl ?_
  refine e_last dL_idleDays_8 rfl ps_84 (by decide) rfl (by omega) ?_
  refine e_goto (tgt := 15) dL_idleDays_9 (by decide) ?_
  refine e_iconst (v := nI 0) dL_idleDays_15 rfl ic_0 ?_
  exact e_iret dL_idleDays_16 rfl rfl (Nat.le_of_ble_eq_true rfl) (Nat.le_of_ble_eq_true rfl) rfl rfl
theorem w_idleDays_x1 {l : Launch} (hf : l.stackTraces = false) {M M' : pmM} {x1 : Int32}  (hS : Sp l kX3_idleDays 86 2 1 6 [.ref 0, .int x1] M (.inr "java/util/NoSuchElementException") M') : SpH l kL_idleDays 86 3 1 6 [.ref 0, .int x1, .ref 84] M (.inl (some (.int (nI 1)))) M' := by
  refine sph_of hf (by decide +kernel) (Nat.le_of_ble_eq_true rfl) (by intro v hv; simp at hv; rcases hv with rfl | rfl | rfl <;> rfl) ?_
  refine e_aload_2 dL_idleDays_0 rfl ?_
  refine e_iconst (v := nI 0) dL_idleDays_1 rfl ic_0 ?_
  refine e_aload_0 dL_idleDays_2 rfl ?_
  refine e_iload_1 dL_idleDays_3 rfl ?_
  have hh : pmHd kL_idleDays 4 12 "java/util/NoSuchElementException" := by
    refine ⟨[], (0, 9, 12, 36), [], rfl, fun z hz => ?_, by decide, by decide, rfl, by decide, "java/util/NoSuchElementException", gw_of 466 (by decide +kernel) rfl, nw_of 473 (by decide +kernel) rfl⟩
    exact absurd hz List.not_mem_nil
  exact e_catch dL_idleDays_4 csL_81 hS rfl rfl ps_0 (by decide) (by decide) ⟨Nat.le_of_ble_eq_true rfl, Nat.le_of_ble_eq_true rfl⟩ ⟨Nat.le_of_ble_eq_true rfl, Nat.le_of_ble_eq_true rfl⟩ (Nat.le_of_ble_eq_true rfl) hh (Or.inl ⟨3, dL_idleDays_12, by decide, rfl⟩) dL_idleDays_13 ic_1 dL_idleDays_14 rfl ⟨Nat.le_of_ble_eq_true rfl, Nat.le_of_ble_eq_true rfl⟩
theorem w_pass_ok {l : Launch} (hf : l.stackTraces = false) {M M' : pmM} {x1 : Int32} {v : Int32} (hS : Sp l kX3_pass 86 2 2 12 [.ref 0, .int x1] M (.inl (some (.int v))) M') : SpH l kL_pass 86 3 2 12 [.ref 0, .int x1, .ref 84] M (.inl (some (.int (nI 0)))) (ouM M' v.toInt64) := by
  refine sph_of hf (by decide +kernel) (Nat.le_of_ble_eq_true rfl) (by intro v hv; simp at hv; rcases hv with rfl | rfl | rfl <;> rfl) ?_
  refine e_aload_2 dL_pass_0 rfl ?_
  refine e_iconst (v := nI 0) dL_pass_1 rfl ic_0 ?_
  refine e_aload_0 dL_pass_2 rfl ?_
  refine e_iload_1 dL_pass_3 rfl ?_
  refine e_callV dL_pass_4 rfl csL_84 hS rfl rfl ps_0 (by decide) (by decide) ⟨Nat.le_of_ble_eq_true rfl, Nat.le_of_ble_eq_true rfl⟩ ⟨Nat.le_of_ble_eq_true rfl, Nat.le_of_ble_eq_true rfl⟩ rfl rfl (Nat.le_of_ble_eq_true rfl) ?_
  refine e_i2l dL_pass_7 rfl ?_
  refine e_last dL_pass_8 rfl ps_84 (by decide) rfl (by omega) ?_
  refine e_goto (tgt := 15) dL_pass_9 (by decide) ?_
  refine e_iconst (v := nI 0) dL_pass_15 rfl ic_0 ?_
  exact e_iret dL_pass_16 rfl rfl (Nat.le_of_ble_eq_true rfl) (Nat.le_of_ble_eq_true rfl) rfl rfl
theorem w_pass_x1 {l : Launch} (hf : l.stackTraces = false) {M M' : pmM} {x1 : Int32}  (hS : Sp l kX3_pass 86 2 2 12 [.ref 0, .int x1] M (.inr "java/lang/IllegalArgumentException") M') : SpH l kL_pass 86 3 2 12 [.ref 0, .int x1, .ref 84] M (.inl (some (.int (nI 1)))) M' := by
  refine sph_of hf (by decide +kernel) (Nat.le_of_ble_eq_true rfl) (by intro v hv; simp at hv; rcases hv with rfl | rfl | rfl <;> rfl) ?_
  refine e_aload_2 dL_pass_0 rfl ?_
  refine e_iconst (v := nI 0) dL_pass_1 rfl ic_0 ?_
  refine e_aload_0 dL_pass_2 rfl ?_
  refine e_iload_1 dL_pass_3 rfl ?_
  have hh : pmHd kL_pass 4 12 "java/lang/IllegalArgumentException" := by
    refine ⟨[], (0, 9, 12, 21), [], rfl, fun z hz => ?_, by decide, by decide, rfl, by decide, "java/lang/IllegalArgumentException", gw_of 363 (by decide +kernel) rfl, nw_of 393 (by decide +kernel) rfl⟩
    exact absurd hz List.not_mem_nil
  exact e_catch dL_pass_4 csL_84 hS rfl rfl ps_0 (by decide) (by decide) ⟨Nat.le_of_ble_eq_true rfl, Nat.le_of_ble_eq_true rfl⟩ ⟨Nat.le_of_ble_eq_true rfl, Nat.le_of_ble_eq_true rfl⟩ (Nat.le_of_ble_eq_true rfl) hh (Or.inl ⟨3, dL_pass_12, by decide, rfl⟩) dL_pass_13 ic_1 dL_pass_14 rfl ⟨Nat.le_of_ble_eq_true rfl, Nat.le_of_ble_eq_true rfl⟩
theorem w_matched_ok {l : Launch} (hf : l.stackTraces = false) {M M' : pmM} {x1 : Int32} {v : Int32} (hS : Sp l kX3_matched 86 3 1 6 [.ref 0, .int x1] M (.inl (some (.int v))) M') : SpH l kL_matched 86 4 1 6 [.ref 0, .int x1, .ref 84] M (.inl (some (.int (nI 0)))) (ouM M' v.toInt64) := by
  refine sph_of hf (by decide +kernel) (Nat.le_of_ble_eq_true rfl) (by intro v hv; simp at hv; rcases hv with rfl | rfl | rfl <;> rfl) ?_
  refine e_aload_2 dL_matched_0 rfl ?_
  refine e_iconst (v := nI 0) dL_matched_1 rfl ic_0 ?_
  refine e_aload_0 dL_matched_2 rfl ?_
  refine e_iload_1 dL_matched_3 rfl ?_
  refine e_callV dL_matched_4 rfl csL_87 hS rfl rfl ps_0 (by decide) (by decide) ⟨Nat.le_of_ble_eq_true rfl, Nat.le_of_ble_eq_true rfl⟩ ⟨Nat.le_of_ble_eq_true rfl, Nat.le_of_ble_eq_true rfl⟩ rfl rfl (Nat.le_of_ble_eq_true rfl) ?_
  refine e_i2l dL_matched_7 rfl ?_
  refine e_last dL_matched_8 rfl ps_84 (by decide) rfl (by omega) ?_
  refine e_goto (tgt := 15) dL_matched_9 (by decide) ?_
  refine e_iconst (v := nI 0) dL_matched_15 rfl ic_0 ?_
  exact e_iret dL_matched_16 rfl rfl (Nat.le_of_ble_eq_true rfl) (Nat.le_of_ble_eq_true rfl) rfl rfl
theorem w_matched_x1 {l : Launch} (hf : l.stackTraces = false) {M M' : pmM} {x1 : Int32}  (hS : Sp l kX3_matched 86 3 1 6 [.ref 0, .int x1] M (.inr "java/util/NoSuchElementException") M') : SpH l kL_matched 86 4 1 6 [.ref 0, .int x1, .ref 84] M (.inl (some (.int (nI 1)))) M' := by
  refine sph_of hf (by decide +kernel) (Nat.le_of_ble_eq_true rfl) (by intro v hv; simp at hv; rcases hv with rfl | rfl | rfl <;> rfl) ?_
  refine e_aload_2 dL_matched_0 rfl ?_
  refine e_iconst (v := nI 0) dL_matched_1 rfl ic_0 ?_
  refine e_aload_0 dL_matched_2 rfl ?_
  refine e_iload_1 dL_matched_3 rfl ?_
  have hh : pmHd kL_matched 4 12 "java/util/NoSuchElementException" := by
    refine ⟨[], (0, 9, 12, 36), [], rfl, fun z hz => ?_, by decide, by decide, rfl, by decide, "java/util/NoSuchElementException", gw_of 466 (by decide +kernel) rfl, nw_of 473 (by decide +kernel) rfl⟩
    exact absurd hz List.not_mem_nil
  exact e_catch dL_matched_4 csL_87 hS rfl rfl ps_0 (by decide) (by decide) ⟨Nat.le_of_ble_eq_true rfl, Nat.le_of_ble_eq_true rfl⟩ ⟨Nat.le_of_ble_eq_true rfl, Nat.le_of_ble_eq_true rfl⟩ (Nat.le_of_ble_eq_true rfl) hh (Or.inl ⟨3, dL_matched_12, by decide, rfl⟩) dL_matched_13 ic_1 dL_matched_14 rfl ⟨Nat.le_of_ble_eq_true rfl, Nat.le_of_ble_eq_true rfl⟩
theorem w_decided_ok {l : Launch} (hf : l.stackTraces = false) {M M' : pmM} {x1 : Int32} {v : Int32} (hS : Sp l kX3_decided 86 13 1 6 [.ref 0, .int x1] M (.inl (some (.int v))) M') : SpH l kL_decided 86 14 1 6 [.ref 0, .int x1, .ref 84] M (.inl (some (.int (nI 0)))) (ouM M' v.toInt64) := by
  refine sph_of hf (by decide +kernel) (Nat.le_of_ble_eq_true rfl) (by intro v hv; simp at hv; rcases hv with rfl | rfl | rfl <;> rfl) ?_
  refine e_aload_2 dL_decided_0 rfl ?_
  refine e_iconst (v := nI 0) dL_decided_1 rfl ic_0 ?_
  refine e_aload_0 dL_decided_2 rfl ?_
  refine e_iload_1 dL_decided_3 rfl ?_
  refine e_callV dL_decided_4 rfl csL_90 hS rfl rfl ps_0 (by decide) (by decide) ⟨Nat.le_of_ble_eq_true rfl, Nat.le_of_ble_eq_true rfl⟩ ⟨Nat.le_of_ble_eq_true rfl, Nat.le_of_ble_eq_true rfl⟩ rfl rfl (Nat.le_of_ble_eq_true rfl) ?_
  refine e_i2l dL_decided_7 rfl ?_
  refine e_last dL_decided_8 rfl ps_84 (by decide) rfl (by omega) ?_
  refine e_goto (tgt := 15) dL_decided_9 (by decide) ?_
  refine e_iconst (v := nI 0) dL_decided_15 rfl ic_0 ?_
  exact e_iret dL_decided_16 rfl rfl (Nat.le_of_ble_eq_true rfl) (Nat.le_of_ble_eq_true rfl) rfl rfl
theorem w_decided_x1 {l : Launch} (hf : l.stackTraces = false) {M M' : pmM} {x1 : Int32}  (hS : Sp l kX3_decided 86 13 1 6 [.ref 0, .int x1] M (.inr "java/util/NoSuchElementException") M') : SpH l kL_decided 86 14 1 6 [.ref 0, .int x1, .ref 84] M (.inl (some (.int (nI 1)))) M' := by
  refine sph_of hf (by decide +kernel) (Nat.le_of_ble_eq_true rfl) (by intro v hv; simp at hv; rcases hv with rfl | rfl | rfl <;> rfl) ?_
  refine e_aload_2 dL_decided_0 rfl ?_
  refine e_iconst (v := nI 0) dL_decided_1 rfl ic_0 ?_
  refine e_aload_0 dL_decided_2 rfl ?_
  refine e_iload_1 dL_decided_3 rfl ?_
  have hh : pmHd kL_decided 4 12 "java/util/NoSuchElementException" := by
    refine ⟨[], (0, 9, 12, 36), [], rfl, fun z hz => ?_, by decide, by decide, rfl, by decide, "java/util/NoSuchElementException", gw_of 466 (by decide +kernel) rfl, nw_of 473 (by decide +kernel) rfl⟩
    exact absurd hz List.not_mem_nil
  exact e_catch dL_decided_4 csL_90 hS rfl rfl ps_0 (by decide) (by decide) ⟨Nat.le_of_ble_eq_true rfl, Nat.le_of_ble_eq_true rfl⟩ ⟨Nat.le_of_ble_eq_true rfl, Nat.le_of_ble_eq_true rfl⟩ (Nat.le_of_ble_eq_true rfl) hh (Or.inl ⟨3, dL_decided_12, by decide, rfl⟩) dL_decided_13 ic_1 dL_decided_14 rfl ⟨Nat.le_of_ble_eq_true rfl, Nat.le_of_ble_eq_true rfl⟩
theorem w_decidedBySamples_ok {l : Launch} (hf : l.stackTraces = false) {M M' : pmM} {x1 : Int32} {v : Int32} (hS : Sp l kX3_decidedBySamples 86 13 1 6 [.ref 0, .int x1] M (.inl (some (.int v))) M') : SpH l kL_decidedBySamples 86 14 1 6 [.ref 0, .int x1, .ref 84] M (.inl (some (.int (nI 0)))) (ouM M' v.toInt64) := by
  refine sph_of hf (by decide +kernel) (Nat.le_of_ble_eq_true rfl) (by intro v hv; simp at hv; rcases hv with rfl | rfl | rfl <;> rfl) ?_
  refine e_aload_2 dL_decidedBySamples_0 rfl ?_
  refine e_iconst (v := nI 0) dL_decidedBySamples_1 rfl ic_0 ?_
  refine e_aload_0 dL_decidedBySamples_2 rfl ?_
  refine e_iload_1 dL_decidedBySamples_3 rfl ?_
  refine e_callV dL_decidedBySamples_4 rfl csL_93 hS rfl rfl ps_0 (by decide) (by decide) ⟨Nat.le_of_ble_eq_true rfl, Nat.le_of_ble_eq_true rfl⟩ ⟨Nat.le_of_ble_eq_true rfl, Nat.le_of_ble_eq_true rfl⟩ rfl rfl (Nat.le_of_ble_eq_true rfl) ?_
  refine e_i2l dL_decidedBySamples_7 rfl ?_
  refine e_last dL_decidedBySamples_8 rfl ps_84 (by decide) rfl (by omega) ?_
  refine e_goto (tgt := 15) dL_decidedBySamples_9 (by decide) ?_
  refine e_iconst (v := nI 0) dL_decidedBySamples_15 rfl ic_0 ?_
  exact e_iret dL_decidedBySamples_16 rfl rfl (Nat.le_of_ble_eq_true rfl) (Nat.le_of_ble_eq_true rfl) rfl rfl
theorem w_decidedBySamples_x1 {l : Launch} (hf : l.stackTraces = false) {M M' : pmM} {x1 : Int32}  (hS : Sp l kX3_decidedBySamples 86 13 1 6 [.ref 0, .int x1] M (.inr "java/util/NoSuchElementException") M') : SpH l kL_decidedBySamples 86 14 1 6 [.ref 0, .int x1, .ref 84] M (.inl (some (.int (nI 1)))) M' := by
  refine sph_of hf (by decide +kernel) (Nat.le_of_ble_eq_true rfl) (by intro v hv; simp at hv; rcases hv with rfl | rfl | rfl <;> rfl) ?_
  refine e_aload_2 dL_decidedBySamples_0 rfl ?_
  refine e_iconst (v := nI 0) dL_decidedBySamples_1 rfl ic_0 ?_
  refine e_aload_0 dL_decidedBySamples_2 rfl ?_
  refine e_iload_1 dL_decidedBySamples_3 rfl ?_
  have hh : pmHd kL_decidedBySamples 4 12 "java/util/NoSuchElementException" := by
    refine ⟨[], (0, 9, 12, 36), [], rfl, fun z hz => ?_, by decide, by decide, rfl, by decide, "java/util/NoSuchElementException", gw_of 466 (by decide +kernel) rfl, nw_of 473 (by decide +kernel) rfl⟩
    exact absurd hz List.not_mem_nil
  exact e_catch dL_decidedBySamples_4 csL_93 hS rfl rfl ps_0 (by decide) (by decide) ⟨Nat.le_of_ble_eq_true rfl, Nat.le_of_ble_eq_true rfl⟩ ⟨Nat.le_of_ble_eq_true rfl, Nat.le_of_ble_eq_true rfl⟩ (Nat.le_of_ble_eq_true rfl) hh (Or.inl ⟨3, dL_decidedBySamples_12, by decide, rfl⟩) dL_decidedBySamples_13 ic_1 dL_decidedBySamples_14 rfl ⟨Nat.le_of_ble_eq_true rfl, Nat.le_of_ble_eq_true rfl⟩
theorem w_isShadowed_ok {l : Launch} (hf : l.stackTraces = false) {M M' : pmM} {x1 : Int32} {b : Bool} (hS : Sp l kX3_isShadowed 86 14 1 6 [.ref 0, .int x1] M (.inl (some (.int (bI b)))) M') : SpH l kL_isShadowed 86 15 1 6 [.ref 0, .int x1, .ref 84] M (.inl (some (.int (nI 0)))) (ouM M' (bL b)) := by
  refine sph_of hf (by decide +kernel) (Nat.le_of_ble_eq_true rfl) (by intro v hv; simp at hv; rcases hv with rfl | rfl | rfl <;> rfl) ?_
  refine e_aload_2 dL_isShadowed_0 rfl ?_
  refine e_iconst (v := nI 0) dL_isShadowed_1 rfl ic_0 ?_
  refine e_aload_0 dL_isShadowed_2 rfl ?_
  refine e_iload_1 dL_isShadowed_3 rfl ?_
  refine e_callV dL_isShadowed_4 rfl csL_96 hS rfl rfl ps_0 (by decide) (by decide) ⟨Nat.le_of_ble_eq_true rfl, Nat.le_of_ble_eq_true rfl⟩ ⟨Nat.le_of_ble_eq_true rfl, Nat.le_of_ble_eq_true rfl⟩ rfl rfl (Nat.le_of_ble_eq_true rfl) ?_
  cases b with
  | false =>
    refine e_if_eq_t (tgt := 14) dL_isShadowed_7 (by decide) (bI0 rfl) ?_
    refine e_lconst (v := 0) dL_isShadowed_14 rfl rfl ?_
    refine e_last dL_isShadowed_15 rfl ps_84 (by decide) rfl (by omega) ?_
    refine e_goto (tgt := 22) dL_isShadowed_16 (by decide) ?_
    refine e_iconst (v := nI 0) dL_isShadowed_22 rfl ic_0 ?_
    exact e_iret dL_isShadowed_23 rfl rfl (Nat.le_of_ble_eq_true rfl) (Nat.le_of_ble_eq_true rfl) rfl rfl
  | true =>
    refine e_if_eq_f dL_isShadowed_7 rfl ⟨14, by decide⟩ (bI1 rfl) ?_
    refine e_lconst (v := 1) dL_isShadowed_10 rfl rfl ?_
    refine e_goto (tgt := 15) dL_isShadowed_11 (by decide) ?_
    refine e_last dL_isShadowed_15 rfl ps_84 (by decide) rfl (by omega) ?_
    refine e_goto (tgt := 22) dL_isShadowed_16 (by decide) ?_
    refine e_iconst (v := nI 0) dL_isShadowed_22 rfl ic_0 ?_
    exact e_iret dL_isShadowed_23 rfl rfl (Nat.le_of_ble_eq_true rfl) (Nat.le_of_ble_eq_true rfl) rfl rfl
theorem w_isShadowed_x1 {l : Launch} (hf : l.stackTraces = false) {M M' : pmM} {x1 : Int32}  (hS : Sp l kX3_isShadowed 86 14 1 6 [.ref 0, .int x1] M (.inr "java/util/NoSuchElementException") M') : SpH l kL_isShadowed 86 15 1 6 [.ref 0, .int x1, .ref 84] M (.inl (some (.int (nI 1)))) M' := by
  refine sph_of hf (by decide +kernel) (Nat.le_of_ble_eq_true rfl) (by intro v hv; simp at hv; rcases hv with rfl | rfl | rfl <;> rfl) ?_
  refine e_aload_2 dL_isShadowed_0 rfl ?_
  refine e_iconst (v := nI 0) dL_isShadowed_1 rfl ic_0 ?_
  refine e_aload_0 dL_isShadowed_2 rfl ?_
  refine e_iload_1 dL_isShadowed_3 rfl ?_
  have hh : pmHd kL_isShadowed 4 19 "java/util/NoSuchElementException" := by
    refine ⟨[], (0, 16, 19, 36), [], rfl, fun z hz => ?_, by decide, by decide, rfl, by decide, "java/util/NoSuchElementException", gw_of 466 (by decide +kernel) rfl, nw_of 473 (by decide +kernel) rfl⟩
    exact absurd hz List.not_mem_nil
  exact e_catch dL_isShadowed_4 csL_96 hS rfl rfl ps_0 (by decide) (by decide) ⟨Nat.le_of_ble_eq_true rfl, Nat.le_of_ble_eq_true rfl⟩ ⟨Nat.le_of_ble_eq_true rfl, Nat.le_of_ble_eq_true rfl⟩ (Nat.le_of_ble_eq_true rfl) hh (Or.inl ⟨3, dL_isShadowed_19, by decide, rfl⟩) dL_isShadowed_20 ic_1 dL_isShadowed_21 rfl ⟨Nat.le_of_ble_eq_true rfl, Nat.le_of_ble_eq_true rfl⟩
theorem w_mainShadow_ok {l : Launch} (hf : l.stackTraces = false) {M M' : pmM} {x1 : Int32} {v : Int32} (hS : Sp l kX3_mainShadow 86 3 2 12 [.ref 0, .int x1] M (.inl (some (.int v))) M') : SpH l kL_mainShadow 86 4 2 12 [.ref 0, .int x1, .ref 84] M (.inl (some (.int (nI 0)))) (ouM M' v.toInt64) := by
  refine sph_of hf (by decide +kernel) (Nat.le_of_ble_eq_true rfl) (by intro v hv; simp at hv; rcases hv with rfl | rfl | rfl <;> rfl) ?_
  refine e_aload_2 dL_mainShadow_0 rfl ?_
  refine e_iconst (v := nI 0) dL_mainShadow_1 rfl ic_0 ?_
  refine e_aload_0 dL_mainShadow_2 rfl ?_
  refine e_iload_1 dL_mainShadow_3 rfl ?_
  refine e_callV dL_mainShadow_4 rfl csL_99 hS rfl rfl ps_0 (by decide) (by decide) ⟨Nat.le_of_ble_eq_true rfl, Nat.le_of_ble_eq_true rfl⟩ ⟨Nat.le_of_ble_eq_true rfl, Nat.le_of_ble_eq_true rfl⟩ rfl rfl (Nat.le_of_ble_eq_true rfl) ?_
  refine e_i2l dL_mainShadow_7 rfl ?_
  refine e_last dL_mainShadow_8 rfl ps_84 (by decide) rfl (by omega) ?_
  refine e_goto (tgt := 15) dL_mainShadow_9 (by decide) ?_
  refine e_iconst (v := nI 0) dL_mainShadow_15 rfl ic_0 ?_
  exact e_iret dL_mainShadow_16 rfl rfl (Nat.le_of_ble_eq_true rfl) (Nat.le_of_ble_eq_true rfl) rfl rfl
theorem w_mainShadow_x1 {l : Launch} (hf : l.stackTraces = false) {M M' : pmM} {x1 : Int32}  (hS : Sp l kX3_mainShadow 86 3 2 12 [.ref 0, .int x1] M (.inr "java/util/NoSuchElementException") M') : SpH l kL_mainShadow 86 4 2 12 [.ref 0, .int x1, .ref 84] M (.inl (some (.int (nI 1)))) M' := by
  refine sph_of hf (by decide +kernel) (Nat.le_of_ble_eq_true rfl) (by intro v hv; simp at hv; rcases hv with rfl | rfl | rfl <;> rfl) ?_
  refine e_aload_2 dL_mainShadow_0 rfl ?_
  refine e_iconst (v := nI 0) dL_mainShadow_1 rfl ic_0 ?_
  refine e_aload_0 dL_mainShadow_2 rfl ?_
  refine e_iload_1 dL_mainShadow_3 rfl ?_
  have hh : pmHd kL_mainShadow 4 12 "java/util/NoSuchElementException" := by
    refine ⟨[], (0, 9, 12, 36), [], rfl, fun z hz => ?_, by decide, by decide, rfl, by decide, "java/util/NoSuchElementException", gw_of 466 (by decide +kernel) rfl, nw_of 473 (by decide +kernel) rfl⟩
    exact absurd hz List.not_mem_nil
  exact e_catch dL_mainShadow_4 csL_99 hS rfl rfl ps_0 (by decide) (by decide) ⟨Nat.le_of_ble_eq_true rfl, Nat.le_of_ble_eq_true rfl⟩ ⟨Nat.le_of_ble_eq_true rfl, Nat.le_of_ble_eq_true rfl⟩ (Nat.le_of_ble_eq_true rfl) hh (Or.inl ⟨3, dL_mainShadow_12, by decide, rfl⟩) dL_mainShadow_13 ic_1 dL_mainShadow_14 rfl ⟨Nat.le_of_ble_eq_true rfl, Nat.le_of_ble_eq_true rfl⟩
theorem w_changedByMove_ok {l : Launch} (hf : l.stackTraces = false) {M M' : pmM} {x1 x2 : Int32} {v : Int32} (hS : Sp l kX3_changedByMove 86 14 2 12 [.ref 0, .int x1, .int x2] M (.inl (some (.int v))) M') : SpH l kL_changedByMove 86 15 2 12 [.ref 0, .int x1, .int x2, .ref 84] M (.inl (some (.int (nI 0)))) (ouM M' v.toInt64) := by
  refine sph_of hf (by decide +kernel) (Nat.le_of_ble_eq_true rfl) (by intro v hv; simp at hv; rcases hv with rfl | rfl | rfl | rfl <;> rfl) ?_
  refine e_aload_3 dL_changedByMove_0 rfl ?_
  refine e_iconst (v := nI 0) dL_changedByMove_1 rfl ic_0 ?_
  refine e_aload_0 dL_changedByMove_2 rfl ?_
  refine e_iload_1 dL_changedByMove_3 rfl ?_
  refine e_iload_2 dL_changedByMove_4 rfl ?_
  refine e_callV dL_changedByMove_5 rfl csL_102 hS rfl rfl ps_0 (by decide) (by decide) ⟨Nat.le_of_ble_eq_true rfl, Nat.le_of_ble_eq_true rfl⟩ ⟨Nat.le_of_ble_eq_true rfl, Nat.le_of_ble_eq_true rfl⟩ rfl rfl (Nat.le_of_ble_eq_true rfl) ?_
  refine e_i2l dL_changedByMove_8 rfl ?_
  refine e_last dL_changedByMove_9 rfl ps_84 (by decide) rfl (by omega) ?_
  refine e_goto (tgt := 21) dL_changedByMove_10 (by decide) ?_
  refine e_iconst (v := nI 0) dL_changedByMove_21 rfl ic_0 ?_
  exact e_iret dL_changedByMove_22 rfl rfl (Nat.le_of_ble_eq_true rfl) (Nat.le_of_ble_eq_true rfl) rfl rfl
theorem w_changedByMove_x1 {l : Launch} (hf : l.stackTraces = false) {M M' : pmM} {x1 x2 : Int32}  (hS : Sp l kX3_changedByMove 86 14 2 12 [.ref 0, .int x1, .int x2] M (.inr "java/util/NoSuchElementException") M') : SpH l kL_changedByMove 86 15 2 12 [.ref 0, .int x1, .int x2, .ref 84] M (.inl (some (.int (nI 1)))) M' := by
  refine sph_of hf (by decide +kernel) (Nat.le_of_ble_eq_true rfl) (by intro v hv; simp at hv; rcases hv with rfl | rfl | rfl | rfl <;> rfl) ?_
  refine e_aload_3 dL_changedByMove_0 rfl ?_
  refine e_iconst (v := nI 0) dL_changedByMove_1 rfl ic_0 ?_
  refine e_aload_0 dL_changedByMove_2 rfl ?_
  refine e_iload_1 dL_changedByMove_3 rfl ?_
  refine e_iload_2 dL_changedByMove_4 rfl ?_
  have hh : pmHd kL_changedByMove 5 13 "java/util/NoSuchElementException" := by
    refine ⟨[], (0, 10, 13, 36), [(0, 10, 17, 19)], rfl, fun z hz => ?_, by decide, by decide, rfl, by decide, "java/util/NoSuchElementException", gw_of 466 (by decide +kernel) rfl, nw_of 473 (by decide +kernel) rfl⟩
    exact absurd hz List.not_mem_nil
  exact e_catch dL_changedByMove_5 csL_102 hS rfl rfl ps_0 (by decide) (by decide) ⟨Nat.le_of_ble_eq_true rfl, Nat.le_of_ble_eq_true rfl⟩ ⟨Nat.le_of_ble_eq_true rfl, Nat.le_of_ble_eq_true rfl⟩ (Nat.le_of_ble_eq_true rfl) hh (Or.inr ⟨4, dL_changedByMove_13, by decide, rfl⟩) dL_changedByMove_15 ic_1 dL_changedByMove_16 rfl ⟨Nat.le_of_ble_eq_true rfl, Nat.le_of_ble_eq_true rfl⟩
theorem w_changedByMove_x2 {l : Launch} (hf : l.stackTraces = false) {M M' : pmM} {x1 x2 : Int32}  (hS : Sp l kX3_changedByMove 86 14 2 12 [.ref 0, .int x1, .int x2] M (.inr "java/lang/IndexOutOfBoundsException") M') : SpH l kL_changedByMove 86 15 2 12 [.ref 0, .int x1, .int x2, .ref 84] M (.inl (some (.int (nI 2)))) M' := by
  refine sph_of hf (by decide +kernel) (Nat.le_of_ble_eq_true rfl) (by intro v hv; simp at hv; rcases hv with rfl | rfl | rfl | rfl <;> rfl) ?_
  refine e_aload_3 dL_changedByMove_0 rfl ?_
  refine e_iconst (v := nI 0) dL_changedByMove_1 rfl ic_0 ?_
  refine e_aload_0 dL_changedByMove_2 rfl ?_
  refine e_iload_1 dL_changedByMove_3 rfl ?_
  refine e_iload_2 dL_changedByMove_4 rfl ?_
  have hh : pmHd kL_changedByMove 5 17 "java/lang/IndexOutOfBoundsException" := by
    refine ⟨[(0, 10, 13, 36)], (0, 10, 17, 19), [], rfl, fun z hz => ?_, by decide, by decide, rfl, by decide, "java/lang/IndexOutOfBoundsException", gw_of 339 (by decide +kernel) rfl, nw_of 374 (by decide +kernel) rfl⟩
    rcases List.mem_cons.mp hz with rfl | hz
    · exact ⟨by decide, "java/util/NoSuchElementException", gw_of 466 (by decide +kernel) rfl, by decide⟩
    exact absurd hz List.not_mem_nil
  exact e_catch dL_changedByMove_5 csL_102 hS rfl rfl ps_0 (by decide) (by decide) ⟨Nat.le_of_ble_eq_true rfl, Nat.le_of_ble_eq_true rfl⟩ ⟨Nat.le_of_ble_eq_true rfl, Nat.le_of_ble_eq_true rfl⟩ (Nat.le_of_ble_eq_true rfl) hh (Or.inr ⟨4, dL_changedByMove_17, by decide, rfl⟩) dL_changedByMove_19 ic_2 dL_changedByMove_20 rfl ⟨Nat.le_of_ble_eq_true rfl, Nat.le_of_ble_eq_true rfl⟩
theorem w_move_ok {l : Launch} (hf : l.stackTraces = false) {M M' : pmM} {x1 x2 : Int32} {v : Int32} (hS : Sp l kX3_move 86 14 3 18 [.ref 0, .int x1, .int x2] M (.inl (some (.int v))) M') : SpH l kL_move 86 15 3 18 [.ref 0, .int x1, .int x2, .ref 84] M (.inl (some (.int (nI 0)))) (ouM M' v.toInt64) := by
  refine sph_of hf (by decide +kernel) (Nat.le_of_ble_eq_true rfl) (by intro v hv; simp at hv; rcases hv with rfl | rfl | rfl | rfl <;> rfl) ?_
  refine e_aload_3 dL_move_0 rfl ?_
  refine e_iconst (v := nI 0) dL_move_1 rfl ic_0 ?_
  refine e_aload_0 dL_move_2 rfl ?_
  refine e_iload_1 dL_move_3 rfl ?_
  refine e_iload_2 dL_move_4 rfl ?_
  refine e_callV dL_move_5 rfl csL_105 hS rfl rfl ps_0 (by decide) (by decide) ⟨Nat.le_of_ble_eq_true rfl, Nat.le_of_ble_eq_true rfl⟩ ⟨Nat.le_of_ble_eq_true rfl, Nat.le_of_ble_eq_true rfl⟩ rfl rfl (Nat.le_of_ble_eq_true rfl) ?_
  refine e_i2l dL_move_8 rfl ?_
  refine e_last dL_move_9 rfl ps_84 (by decide) rfl (by omega) ?_
  refine e_goto (tgt := 25) dL_move_10 (by decide) ?_
  refine e_iconst (v := nI 0) dL_move_25 rfl ic_0 ?_
  exact e_iret dL_move_26 rfl rfl (Nat.le_of_ble_eq_true rfl) (Nat.le_of_ble_eq_true rfl) rfl rfl
theorem w_move_x1 {l : Launch} (hf : l.stackTraces = false) {M M' : pmM} {x1 x2 : Int32}  (hS : Sp l kX3_move 86 14 3 18 [.ref 0, .int x1, .int x2] M (.inr "java/util/NoSuchElementException") M') : SpH l kL_move 86 15 3 18 [.ref 0, .int x1, .int x2, .ref 84] M (.inl (some (.int (nI 1)))) M' := by
  refine sph_of hf (by decide +kernel) (Nat.le_of_ble_eq_true rfl) (by intro v hv; simp at hv; rcases hv with rfl | rfl | rfl | rfl <;> rfl) ?_
  refine e_aload_3 dL_move_0 rfl ?_
  refine e_iconst (v := nI 0) dL_move_1 rfl ic_0 ?_
  refine e_aload_0 dL_move_2 rfl ?_
  refine e_iload_1 dL_move_3 rfl ?_
  refine e_iload_2 dL_move_4 rfl ?_
  have hh : pmHd kL_move 5 13 "java/util/NoSuchElementException" := by
    refine ⟨[], (0, 10, 13, 36), [(0, 10, 17, 19), (0, 10, 21, 31)], rfl, fun z hz => ?_, by decide, by decide, rfl, by decide, "java/util/NoSuchElementException", gw_of 466 (by decide +kernel) rfl, nw_of 473 (by decide +kernel) rfl⟩
    exact absurd hz List.not_mem_nil
  exact e_catch dL_move_5 csL_105 hS rfl rfl ps_0 (by decide) (by decide) ⟨Nat.le_of_ble_eq_true rfl, Nat.le_of_ble_eq_true rfl⟩ ⟨Nat.le_of_ble_eq_true rfl, Nat.le_of_ble_eq_true rfl⟩ (Nat.le_of_ble_eq_true rfl) hh (Or.inr ⟨4, dL_move_13, by decide, rfl⟩) dL_move_15 ic_1 dL_move_16 rfl ⟨Nat.le_of_ble_eq_true rfl, Nat.le_of_ble_eq_true rfl⟩
theorem w_move_x2 {l : Launch} (hf : l.stackTraces = false) {M M' : pmM} {x1 x2 : Int32}  (hS : Sp l kX3_move 86 14 3 18 [.ref 0, .int x1, .int x2] M (.inr "java/lang/IndexOutOfBoundsException") M') : SpH l kL_move 86 15 3 18 [.ref 0, .int x1, .int x2, .ref 84] M (.inl (some (.int (nI 2)))) M' := by
  refine sph_of hf (by decide +kernel) (Nat.le_of_ble_eq_true rfl) (by intro v hv; simp at hv; rcases hv with rfl | rfl | rfl | rfl <;> rfl) ?_
  refine e_aload_3 dL_move_0 rfl ?_
  refine e_iconst (v := nI 0) dL_move_1 rfl ic_0 ?_
  refine e_aload_0 dL_move_2 rfl ?_
  refine e_iload_1 dL_move_3 rfl ?_
  refine e_iload_2 dL_move_4 rfl ?_
  have hh : pmHd kL_move 5 17 "java/lang/IndexOutOfBoundsException" := by
    refine ⟨[(0, 10, 13, 36)], (0, 10, 17, 19), [(0, 10, 21, 31)], rfl, fun z hz => ?_, by decide, by decide, rfl, by decide, "java/lang/IndexOutOfBoundsException", gw_of 339 (by decide +kernel) rfl, nw_of 374 (by decide +kernel) rfl⟩
    rcases List.mem_cons.mp hz with rfl | hz
    · exact ⟨by decide, "java/util/NoSuchElementException", gw_of 466 (by decide +kernel) rfl, by decide⟩
    exact absurd hz List.not_mem_nil
  exact e_catch dL_move_5 csL_105 hS rfl rfl ps_0 (by decide) (by decide) ⟨Nat.le_of_ble_eq_true rfl, Nat.le_of_ble_eq_true rfl⟩ ⟨Nat.le_of_ble_eq_true rfl, Nat.le_of_ble_eq_true rfl⟩ (Nat.le_of_ble_eq_true rfl) hh (Or.inr ⟨4, dL_move_17, by decide, rfl⟩) dL_move_19 ic_2 dL_move_20 rfl ⟨Nat.le_of_ble_eq_true rfl, Nat.le_of_ble_eq_true rfl⟩
theorem w_move_x3 {l : Launch} (hf : l.stackTraces = false) {M M' : pmM} {x1 x2 : Int32}  (hS : Sp l kX3_move 86 14 3 18 [.ref 0, .int x1, .int x2] M (.inr "java/lang/UnsupportedOperationException") M') : SpH l kL_move 86 15 3 18 [.ref 0, .int x1, .int x2, .ref 84] M (.inl (some (.int (nI 3)))) M' := by
  refine sph_of hf (by decide +kernel) (Nat.le_of_ble_eq_true rfl) (by intro v hv; simp at hv; rcases hv with rfl | rfl | rfl | rfl <;> rfl) ?_
  refine e_aload_3 dL_move_0 rfl ?_
  refine e_iconst (v := nI 0) dL_move_1 rfl ic_0 ?_
  refine e_aload_0 dL_move_2 rfl ?_
  refine e_iload_1 dL_move_3 rfl ?_
  refine e_iload_2 dL_move_4 rfl ?_
  have hh : pmHd kL_move 5 21 "java/lang/UnsupportedOperationException" := by
    refine ⟨[(0, 10, 13, 36), (0, 10, 17, 19)], (0, 10, 21, 31), [], rfl, fun z hz => ?_, by decide, by decide, rfl, by decide, "java/lang/UnsupportedOperationException", gw_of 437 (by decide +kernel) rfl, nw_of 448 (by decide +kernel) rfl⟩
    rcases List.mem_cons.mp hz with rfl | hz
    · exact ⟨by decide, "java/util/NoSuchElementException", gw_of 466 (by decide +kernel) rfl, by decide⟩
    rcases List.mem_cons.mp hz with rfl | hz
    · exact ⟨by decide, "java/lang/IndexOutOfBoundsException", gw_of 339 (by decide +kernel) rfl, by decide⟩
    exact absurd hz List.not_mem_nil
  exact e_catch dL_move_5 csL_105 hS rfl rfl ps_0 (by decide) (by decide) ⟨Nat.le_of_ble_eq_true rfl, Nat.le_of_ble_eq_true rfl⟩ ⟨Nat.le_of_ble_eq_true rfl, Nat.le_of_ble_eq_true rfl⟩ (Nat.le_of_ble_eq_true rfl) hh (Or.inr ⟨4, dL_move_21, by decide, rfl⟩) dL_move_23 ic_3 dL_move_24 rfl ⟨Nat.le_of_ble_eq_true rfl, Nat.le_of_ble_eq_true rfl⟩
theorem w_changedByRange_ok {l : Launch} (hf : l.stackTraces = false) {M M' : pmM} {x1 x2 x3 : Int32} {v : Int32} (hS : Sp l kX3_changedByRange 86 13 4 24 [.ref 0, .int x1, .int x2, .int x3] M (.inl (some (.int v))) M') : SpH l kL_changedByRange 86 14 4 24 [.ref 0, .int x1, .int x2, .int x3, .ref 84] M (.inl (some (.int (nI 0)))) (ouM M' v.toInt64) := by
  refine sph_of hf (by decide +kernel) (Nat.le_of_ble_eq_true rfl) (by intro v hv; simp at hv; rcases hv with rfl | rfl | rfl | rfl | rfl <;> rfl) ?_
  refine e_aload_4 dL_changedByRange_0 rfl ?_
  refine e_iconst (v := nI 0) dL_changedByRange_2 rfl ic_0 ?_
  refine e_aload_0 dL_changedByRange_3 rfl ?_
  refine e_iload_1 dL_changedByRange_4 rfl ?_
  refine e_iload_2 dL_changedByRange_5 rfl ?_
  refine e_iload_3 dL_changedByRange_6 rfl ?_
  refine e_callV dL_changedByRange_7 rfl csL_108 hS rfl rfl ps_0 (by decide) (by decide) ⟨Nat.le_of_ble_eq_true rfl, Nat.le_of_ble_eq_true rfl⟩ ⟨Nat.le_of_ble_eq_true rfl, Nat.le_of_ble_eq_true rfl⟩ rfl rfl (Nat.le_of_ble_eq_true rfl) ?_
  refine e_i2l dL_changedByRange_10 rfl ?_
  refine e_last dL_changedByRange_11 rfl ps_84 (by decide) rfl (by omega) ?_
  refine e_goto (tgt := 23) dL_changedByRange_12 (by decide) ?_
  refine e_iconst (v := nI 0) dL_changedByRange_23 rfl ic_0 ?_
  exact e_iret dL_changedByRange_24 rfl rfl (Nat.le_of_ble_eq_true rfl) (Nat.le_of_ble_eq_true rfl) rfl rfl
theorem w_changedByRange_x1 {l : Launch} (hf : l.stackTraces = false) {M M' : pmM} {x1 x2 x3 : Int32}  (hS : Sp l kX3_changedByRange 86 13 4 24 [.ref 0, .int x1, .int x2, .int x3] M (.inr "java/lang/IndexOutOfBoundsException") M') : SpH l kL_changedByRange 86 14 4 24 [.ref 0, .int x1, .int x2, .int x3, .ref 84] M (.inl (some (.int (nI 1)))) M' := by
  refine sph_of hf (by decide +kernel) (Nat.le_of_ble_eq_true rfl) (by intro v hv; simp at hv; rcases hv with rfl | rfl | rfl | rfl | rfl <;> rfl) ?_
  refine e_aload_4 dL_changedByRange_0 rfl ?_
  refine e_iconst (v := nI 0) dL_changedByRange_2 rfl ic_0 ?_
  refine e_aload_0 dL_changedByRange_3 rfl ?_
  refine e_iload_1 dL_changedByRange_4 rfl ?_
  refine e_iload_2 dL_changedByRange_5 rfl ?_
  refine e_iload_3 dL_changedByRange_6 rfl ?_
  have hh : pmHd kL_changedByRange 7 15 "java/lang/IndexOutOfBoundsException" := by
    refine ⟨[], (0, 12, 15, 19), [(0, 12, 19, 21)], rfl, fun z hz => ?_, by decide, by decide, rfl, by decide, "java/lang/IndexOutOfBoundsException", gw_of 339 (by decide +kernel) rfl, nw_of 374 (by decide +kernel) rfl⟩
    exact absurd hz List.not_mem_nil
  exact e_catch dL_changedByRange_7 csL_108 hS rfl rfl ps_0 (by decide) (by decide) ⟨Nat.le_of_ble_eq_true rfl, Nat.le_of_ble_eq_true rfl⟩ ⟨Nat.le_of_ble_eq_true rfl, Nat.le_of_ble_eq_true rfl⟩ (Nat.le_of_ble_eq_true rfl) hh (Or.inr ⟨5, dL_changedByRange_15, by decide, rfl⟩) dL_changedByRange_17 ic_1 dL_changedByRange_18 rfl ⟨Nat.le_of_ble_eq_true rfl, Nat.le_of_ble_eq_true rfl⟩
theorem w_changedByRange_x2 {l : Launch} (hf : l.stackTraces = false) {M M' : pmM} {x1 x2 x3 : Int32}  (hS : Sp l kX3_changedByRange 86 13 4 24 [.ref 0, .int x1, .int x2, .int x3] M (.inr "java/lang/IllegalArgumentException") M') : SpH l kL_changedByRange 86 14 4 24 [.ref 0, .int x1, .int x2, .int x3, .ref 84] M (.inl (some (.int (nI 2)))) M' := by
  refine sph_of hf (by decide +kernel) (Nat.le_of_ble_eq_true rfl) (by intro v hv; simp at hv; rcases hv with rfl | rfl | rfl | rfl | rfl <;> rfl) ?_
  refine e_aload_4 dL_changedByRange_0 rfl ?_
  refine e_iconst (v := nI 0) dL_changedByRange_2 rfl ic_0 ?_
  refine e_aload_0 dL_changedByRange_3 rfl ?_
  refine e_iload_1 dL_changedByRange_4 rfl ?_
  refine e_iload_2 dL_changedByRange_5 rfl ?_
  refine e_iload_3 dL_changedByRange_6 rfl ?_
  have hh : pmHd kL_changedByRange 7 19 "java/lang/IllegalArgumentException" := by
    refine ⟨[(0, 12, 15, 19)], (0, 12, 19, 21), [], rfl, fun z hz => ?_, by decide, by decide, rfl, by decide, "java/lang/IllegalArgumentException", gw_of 363 (by decide +kernel) rfl, nw_of 393 (by decide +kernel) rfl⟩
    rcases List.mem_cons.mp hz with rfl | hz
    · exact ⟨by decide, "java/lang/IndexOutOfBoundsException", gw_of 339 (by decide +kernel) rfl, by decide⟩
    exact absurd hz List.not_mem_nil
  exact e_catch dL_changedByRange_7 csL_108 hS rfl rfl ps_0 (by decide) (by decide) ⟨Nat.le_of_ble_eq_true rfl, Nat.le_of_ble_eq_true rfl⟩ ⟨Nat.le_of_ble_eq_true rfl, Nat.le_of_ble_eq_true rfl⟩ (Nat.le_of_ble_eq_true rfl) hh (Or.inr ⟨5, dL_changedByRange_19, by decide, rfl⟩) dL_changedByRange_21 ic_2 dL_changedByRange_22 rfl ⟨Nat.le_of_ble_eq_true rfl, Nat.le_of_ble_eq_true rfl⟩
theorem w_shadowedShare_ok {l : Launch} (hf : l.stackTraces = false) {M M' : pmM} {r : UInt32} (hr : vf_n64 (FP.f2d r)) (hS : Sp l kX3_shadowedShare 86 14 1 6 [.ref 0] M (.inl (some (.float r))) M') : SpH l kL_shadowedShare 86 15 1 6 [.ref 0, .ref 85] M (.inl (some (.int (nI 0)))) (odD M' (FP.f2d r)) := by
  refine sph_of hf (by decide +kernel) (Nat.le_of_ble_eq_true rfl) (by intro v hv; simp at hv; rcases hv with rfl | rfl <;> rfl) ?_
  refine e_aload_1 dL_shadowedShare_0 rfl ?_
  refine e_iconst (v := nI 0) dL_shadowedShare_1 rfl ic_0 ?_
  refine e_aload_0 dL_shadowedShare_2 rfl ?_
  refine e_callV dL_shadowedShare_3 rfl csL_111 hS rfl rfl ps_0 (by decide) (by decide) ⟨Nat.le_of_ble_eq_true rfl, Nat.le_of_ble_eq_true rfl⟩ ⟨Nat.le_of_ble_eq_true rfl, Nat.le_of_ble_eq_true rfl⟩ rfl rfl (Nat.le_of_ble_eq_true rfl) ?_
  refine e_f2d dL_shadowedShare_6 rfl hr ?_
  refine e_dast dL_shadowedShare_7 rfl ps_85 (by decide) rfl (by omega) ?_
  refine e_goto (tgt := 14) dL_shadowedShare_8 (by decide) ?_
  refine e_iconst (v := nI 0) dL_shadowedShare_14 rfl ic_0 ?_
  exact e_iret dL_shadowedShare_15 rfl rfl (Nat.le_of_ble_eq_true rfl) (Nat.le_of_ble_eq_true rfl) rfl rfl
theorem w_shadowedShare_x1 {l : Launch} (hf : l.stackTraces = false) {M M' : pmM}  (hS : Sp l kX3_shadowedShare 86 14 1 6 [.ref 0] M (.inr "java/lang/ArithmeticException") M') : SpH l kL_shadowedShare 86 15 1 6 [.ref 0, .ref 85] M (.inl (some (.int (nI 1)))) M' := by
  refine sph_of hf (by decide +kernel) (Nat.le_of_ble_eq_true rfl) (by intro v hv; simp at hv; rcases hv with rfl | rfl <;> rfl) ?_
  refine e_aload_1 dL_shadowedShare_0 rfl ?_
  refine e_iconst (v := nI 0) dL_shadowedShare_1 rfl ic_0 ?_
  refine e_aload_0 dL_shadowedShare_2 rfl ?_
  have hh : pmHd kL_shadowedShare 3 11 "java/lang/ArithmeticException" := by
    refine ⟨[], (0, 8, 11, 115), [], rfl, fun z hz => ?_, by decide, by decide, rfl, by decide, "java/lang/ArithmeticException", gw_of 741 (by decide +kernel) rfl, nw_of 753 (by decide +kernel) rfl⟩
    exact absurd hz List.not_mem_nil
  exact e_catch dL_shadowedShare_3 csL_111 hS rfl rfl ps_0 (by decide) (by decide) ⟨Nat.le_of_ble_eq_true rfl, Nat.le_of_ble_eq_true rfl⟩ ⟨Nat.le_of_ble_eq_true rfl, Nat.le_of_ble_eq_true rfl⟩ (Nat.le_of_ble_eq_true rfl) hh (Or.inl ⟨2, dL_shadowedShare_11, by decide, rfl⟩) dL_shadowedShare_12 ic_1 dL_shadowedShare_13 rfl ⟨Nat.le_of_ble_eq_true rfl, Nat.le_of_ble_eq_true rfl⟩
theorem w_meanHits_ok {l : Launch} (hf : l.stackTraces = false) {M M' : pmM} {r : UInt64} (hS : Sp l kX3_meanHits 86 1 1 6 [.ref 0] M (.inl (some (.double r))) M') : SpH l kL_meanHits 86 2 1 6 [.ref 0, .ref 85] M (.inl (some (.int (nI 0)))) (odD M' r) := by
  refine sph_of hf (by decide +kernel) (Nat.le_of_ble_eq_true rfl) (by intro v hv; simp at hv; rcases hv with rfl | rfl <;> rfl) ?_
  refine e_aload_1 dL_meanHits_0 rfl ?_
  refine e_iconst (v := nI 0) dL_meanHits_1 rfl ic_0 ?_
  refine e_aload_0 dL_meanHits_2 rfl ?_
  refine e_callV dL_meanHits_3 rfl csL_117 hS rfl rfl ps_0 (by decide) (by decide) ⟨Nat.le_of_ble_eq_true rfl, Nat.le_of_ble_eq_true rfl⟩ ⟨Nat.le_of_ble_eq_true rfl, Nat.le_of_ble_eq_true rfl⟩ rfl rfl (Nat.le_of_ble_eq_true rfl) ?_
  refine e_dast dL_meanHits_6 rfl ps_85 (by decide) rfl (by omega) ?_
  refine e_goto (tgt := 13) dL_meanHits_7 (by decide) ?_
  refine e_iconst (v := nI 0) dL_meanHits_13 rfl ic_0 ?_
  exact e_iret dL_meanHits_14 rfl rfl (Nat.le_of_ble_eq_true rfl) (Nat.le_of_ble_eq_true rfl) rfl rfl
theorem w_meanHits_x1 {l : Launch} (hf : l.stackTraces = false) {M M' : pmM}  (hS : Sp l kX3_meanHits 86 1 1 6 [.ref 0] M (.inr "java/lang/ArithmeticException") M') : SpH l kL_meanHits 86 2 1 6 [.ref 0, .ref 85] M (.inl (some (.int (nI 1)))) M' := by
  refine sph_of hf (by decide +kernel) (Nat.le_of_ble_eq_true rfl) (by intro v hv; simp at hv; rcases hv with rfl | rfl <;> rfl) ?_
  refine e_aload_1 dL_meanHits_0 rfl ?_
  refine e_iconst (v := nI 0) dL_meanHits_1 rfl ic_0 ?_
  refine e_aload_0 dL_meanHits_2 rfl ?_
  have hh : pmHd kL_meanHits 3 10 "java/lang/ArithmeticException" := by
    refine ⟨[], (0, 7, 10, 115), [], rfl, fun z hz => ?_, by decide, by decide, rfl, by decide, "java/lang/ArithmeticException", gw_of 741 (by decide +kernel) rfl, nw_of 753 (by decide +kernel) rfl⟩
    exact absurd hz List.not_mem_nil
  exact e_catch dL_meanHits_3 csL_117 hS rfl rfl ps_0 (by decide) (by decide) ⟨Nat.le_of_ble_eq_true rfl, Nat.le_of_ble_eq_true rfl⟩ ⟨Nat.le_of_ble_eq_true rfl, Nat.le_of_ble_eq_true rfl⟩ (Nat.le_of_ble_eq_true rfl) hh (Or.inl ⟨2, dL_meanHits_10, by decide, rfl⟩) dL_meanHits_11 ic_1 dL_meanHits_12 rfl ⟨Nat.le_of_ble_eq_true rfl, Nat.le_of_ble_eq_true rfl⟩
