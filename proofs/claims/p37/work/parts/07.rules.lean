/-! ===== the rules, one an instruction ===== -/
def pmNf (ci : Nat) : Nat := match ci with
  | 0 => 3
  | 1 => 10
  | 2 => 3
  | 3 => 9
  | _ => 9
theorem psh_tail (k : Nat) : ∀ q : Nat × Nat, (([(4, 9), (5, 8), (5, 24), (5, 24), (5, 8), (5, 16), (5, 8), (6, 8), (5, 8), (6, 8), (5, 24), (5, 8), (5, 8), (5, 8), (5, 8), (5, 8), (5, 8), (5, 8), (5, 194), (5, 8), (11, 1), (12, 1)] : List (Nat × Nat)).getD k (5, 0)) = q → (q.1 < 5 → q.2 = pmNf q.1) ∧ q.2 < 2 ^ 31 := by
  intro q hq
  subst hq
  by_cases hk : k < 22
  · exact (show ∀ k, k < 22 → ((([(4, 9), (5, 8), (5, 24), (5, 24), (5, 8), (5, 16), (5, 8), (6, 8), (5, 8), (6, 8), (5, 24), (5, 8), (5, 8), (5, 8), (5, 8), (5, 8), (5, 8), (5, 8), (5, 194), (5, 8), (11, 1), (12, 1)] : List (Nat × Nat)).getD k (5, 0)).1 < 5 → (([(4, 9), (5, 8), (5, 24), (5, 24), (5, 8), (5, 16), (5, 8), (6, 8), (5, 8), (6, 8), (5, 24), (5, 8), (5, 8), (5, 8), (5, 8), (5, 8), (5, 8), (5, 8), (5, 194), (5, 8), (11, 1), (12, 1)] : List (Nat × Nat)).getD k (5, 0)).2 = pmNf (([(4, 9), (5, 8), (5, 24), (5, 24), (5, 8), (5, 16), (5, 8), (6, 8), (5, 8), (6, 8), (5, 24), (5, 8), (5, 8), (5, 8), (5, 8), (5, 8), (5, 8), (5, 8), (5, 194), (5, 8), (11, 1), (12, 1)] : List (Nat × Nat)).getD k (5, 0)).1) ∧ (([(4, 9), (5, 8), (5, 24), (5, 24), (5, 8), (5, 16), (5, 8), (6, 8), (5, 8), (6, 8), (5, 24), (5, 8), (5, 8), (5, 8), (5, 8), (5, 8), (5, 8), (5, 8), (5, 194), (5, 8), (11, 1), (12, 1)] : List (Nat × Nat)).getD k (5, 0)).2 < 2 ^ 31 from by decide +kernel) k hk
  · rw [List.getD_eq_getElem?_getD, List.getElem?_eq_none (by simp; omega)]
    exact ⟨fun h => absurd h (by decide), by decide⟩
theorem psh_ok (a : Nat) : ((psh a).1 < 5 → (psh a).2 = pmNf (psh a).1) ∧ (psh a).2 < 2 ^ 31 := by
  generalize hq : psh a = q
  unfold psh at hq
  repeat' split at hq
  all_goals first
    | exact psh_tail _ q hq
    | (subst hq; exact ⟨fun _ => rfl, by decide⟩)
    | (subst hq; exact ⟨fun h => absurd h (by decide), by decide⟩)
theorem pm_len {a ci N : Nat} (h : psh a = (ci, N)) (hc : ci < 5 := by decide) : N = pmNf ci := by
  have := (psh_ok a).1
  rw [h] at this
  exact this hc
theorem pm_len31 (a : Nat) : (psh a).2 < 2 ^ 31 := (psh_ok a).2
section EVR
variable {l : Launch} {K : pmKey} {G : pmG} {R : Room} {n u w pc pc' : Nat} {lo : List (Option Value)} {st : List Value} {M : pmM}

theorem e_iconst {z : Int} {v : Int32} (hd : decode K.2.1 pc = .ok (.iconst z, 1)) (hp : pc + 1 = pc') (hv : Int32.ofInt z = v) (kk : Ev l K G R n u w pc' lo (.int v :: st) M) : Ev l K G R n u w pc lo st M := by
  subst hp
  exact fun p e s m args below meth c D cy L A H locs ls X hl hP hS => lv_iconst X.1 X.2.1 hd hv (kk p e s m args below meth c D cy L A H locs ls X hl hP hS)
theorem e_bipush {z : Int} {v : Int32} (hd : decode K.2.1 pc = .ok (.bipush z, 2)) (hp : pc + 2 = pc') (hv : (Int8.ofInt z).toInt32 = v) (kk : Ev l K G R n u w pc' lo (.int v :: st) M) : Ev l K G R n u w pc lo st M := by
  subst hp
  exact fun p e s m args below meth c D cy L A H locs ls X hl hP hS => lv_bipush X.1 X.2.1 hd hv (kk p e s m args below meth c D cy L A H locs ls X hl hP hS)
theorem e_sipush {z : Int} {v : Int32} (hd : decode K.2.1 pc = .ok (.sipush z, 3)) (hp : pc + 3 = pc') (hv : (Int16.ofInt z).toInt32 = v) (kk : Ev l K G R n u w pc' lo (.int v :: st) M) : Ev l K G R n u w pc lo st M := by
  subst hp
  exact fun p e s m args below meth c D cy L A H locs ls X hl hP hS => lv_sipush X.1 X.2.1 hd hv (kk p e s m args below meth c D cy L A H locs ls X hl hP hS)
theorem e_fconst0 (hd : decode K.2.1 pc = .ok (.fconst 0, 1)) (hp : pc + 1 = pc') (kk : Ev l K G R n u w pc' lo (.float FP.fconst0 :: st) M) : Ev l K G R n u w pc lo st M := by
  subst hp
  exact fun p e s m args below meth c D cy L A H locs ls X hl hP hS => lv_fconst0 X.1 X.2.1 hd (kk p e s m args below meth c D cy L A H locs ls X hl hP hS)
theorem e_dconst0 (hd : decode K.2.1 pc = .ok (.dconst 0, 1)) (hp : pc + 1 = pc') (kk : Ev l K G R n u w pc' lo (.double FP.dconst0 :: st) M) : Ev l K G R n u w pc lo st M := by
  subst hp
  exact fun p e s m args below meth c D cy L A H locs ls X hl hP hS => lv_dconst0 X.1 X.2.1 hd (kk p e s m args below meth c D cy L A H locs ls X hl hP hS)
theorem e_ldcw {idx : Nat} {v : Int32} (hd : decode K.2.1 pc = .ok (.ldc_w idx, 3)) (hp : pc + 3 = pc') (hw : Cond.constant K.1.cls idx v ∈ gw) (kk : Ev l K G R n u w pc' lo (.int v :: st) M) : Ev l K G R n u w pc lo st M := by
  subst hp
  exact fun p e s m args below meth c D cy L A H locs ls X hl hP hS => lv_ldcw X.1 X.2.1 X.2.2.2.1 (X.2.2.2.2.1 _ hw) hd (kk p e s m args below meth c D cy L A H locs ls X hl hP hS)

theorem e_iload_n {i : Nat} {x : Int32} {k : Fin 4} (hi : (k : Nat) = i) (hd : decode K.2.1 pc = .ok (.iload_n k, 1)) (hp : pc + 1 = pc') (h : lo[i]? = some (some (.int x))) (kk : Ev l K G R n u w pc' lo (.int x :: st) M) : Ev l K G R n u w pc lo st M := by
  subst hp
  exact fun p e s m args below meth c D cy L A H locs ls X hl hP hS => lv_iload_n X.1 X.2.1 hd hi (pm_get hl h) (kk p e s m args below meth c D cy L A H locs ls X hl hP hS)

theorem e_iload {i : Nat} {x : Int32} (hd : decode K.2.1 pc = .ok (.iload i, 2)) (hp : pc + 2 = pc') (h : lo[i]? = some (some (.int x))) (kk : Ev l K G R n u w pc' lo (.int x :: st) M) : Ev l K G R n u w pc lo st M := by
  subst hp
  exact fun p e s m args below meth c D cy L A H locs ls X hl hP hS => lv_iload X.1 X.2.1 hd (pm_get hl h) (kk p e s m args below meth c D cy L A H locs ls X hl hP hS)

theorem e_iload_0 {r : List (Option Value)} {x : Int32} (hd : decode K.2.1 pc = .ok (.iload_n 0, 1)) (hp : pc + 1 = pc') (kk : Ev l K G R n u w pc' (some (.int x) :: r) (.int x :: st) M) : Ev l K G R n u w pc (some (.int x) :: r) st M :=
  e_iload_n (k := 0) (i := 0) rfl hd hp rfl kk

theorem e_iload_1 {o0 : Option Value} {r : List (Option Value)} {x : Int32} (hd : decode K.2.1 pc = .ok (.iload_n 1, 1)) (hp : pc + 1 = pc') (kk : Ev l K G R n u w pc' (o0 :: some (.int x) :: r) (.int x :: st) M) : Ev l K G R n u w pc (o0 :: some (.int x) :: r) st M :=
  e_iload_n (k := 1) (i := 1) rfl hd hp rfl kk

theorem e_iload_2 {o0 o1 : Option Value} {r : List (Option Value)} {x : Int32} (hd : decode K.2.1 pc = .ok (.iload_n 2, 1)) (hp : pc + 1 = pc') (kk : Ev l K G R n u w pc' (o0 :: o1 :: some (.int x) :: r) (.int x :: st) M) : Ev l K G R n u w pc (o0 :: o1 :: some (.int x) :: r) st M :=
  e_iload_n (k := 2) (i := 2) rfl hd hp rfl kk

theorem e_iload_3 {o0 o1 o2 : Option Value} {r : List (Option Value)} {x : Int32} (hd : decode K.2.1 pc = .ok (.iload_n 3, 1)) (hp : pc + 1 = pc') (kk : Ev l K G R n u w pc' (o0 :: o1 :: o2 :: some (.int x) :: r) (.int x :: st) M) : Ev l K G R n u w pc (o0 :: o1 :: o2 :: some (.int x) :: r) st M :=
  e_iload_n (k := 3) (i := 3) rfl hd hp rfl kk

theorem e_iload_4 {o0 o1 o2 o3 : Option Value} {r : List (Option Value)} {x : Int32} (hd : decode K.2.1 pc = .ok (.iload 4, 2)) (hp : pc + 2 = pc') (kk : Ev l K G R n u w pc' (o0 :: o1 :: o2 :: o3 :: some (.int x) :: r) (.int x :: st) M) : Ev l K G R n u w pc (o0 :: o1 :: o2 :: o3 :: some (.int x) :: r) st M :=
  e_iload (i := 4) hd hp rfl kk

theorem e_iload_5 {o0 o1 o2 o3 o4 : Option Value} {r : List (Option Value)} {x : Int32} (hd : decode K.2.1 pc = .ok (.iload 5, 2)) (hp : pc + 2 = pc') (kk : Ev l K G R n u w pc' (o0 :: o1 :: o2 :: o3 :: o4 :: some (.int x) :: r) (.int x :: st) M) : Ev l K G R n u w pc (o0 :: o1 :: o2 :: o3 :: o4 :: some (.int x) :: r) st M :=
  e_iload (i := 5) hd hp rfl kk

theorem e_iload_6 {o0 o1 o2 o3 o4 o5 : Option Value} {r : List (Option Value)} {x : Int32} (hd : decode K.2.1 pc = .ok (.iload 6, 2)) (hp : pc + 2 = pc') (kk : Ev l K G R n u w pc' (o0 :: o1 :: o2 :: o3 :: o4 :: o5 :: some (.int x) :: r) (.int x :: st) M) : Ev l K G R n u w pc (o0 :: o1 :: o2 :: o3 :: o4 :: o5 :: some (.int x) :: r) st M :=
  e_iload (i := 6) hd hp rfl kk

theorem e_iload_7 {o0 o1 o2 o3 o4 o5 o6 : Option Value} {r : List (Option Value)} {x : Int32} (hd : decode K.2.1 pc = .ok (.iload 7, 2)) (hp : pc + 2 = pc') (kk : Ev l K G R n u w pc' (o0 :: o1 :: o2 :: o3 :: o4 :: o5 :: o6 :: some (.int x) :: r) (.int x :: st) M) : Ev l K G R n u w pc (o0 :: o1 :: o2 :: o3 :: o4 :: o5 :: o6 :: some (.int x) :: r) st M :=
  e_iload (i := 7) hd hp rfl kk

theorem e_iload_8 {o0 o1 o2 o3 o4 o5 o6 o7 : Option Value} {r : List (Option Value)} {x : Int32} (hd : decode K.2.1 pc = .ok (.iload 8, 2)) (hp : pc + 2 = pc') (kk : Ev l K G R n u w pc' (o0 :: o1 :: o2 :: o3 :: o4 :: o5 :: o6 :: o7 :: some (.int x) :: r) (.int x :: st) M) : Ev l K G R n u w pc (o0 :: o1 :: o2 :: o3 :: o4 :: o5 :: o6 :: o7 :: some (.int x) :: r) st M :=
  e_iload (i := 8) hd hp rfl kk

theorem e_iload_9 {o0 o1 o2 o3 o4 o5 o6 o7 o8 : Option Value} {r : List (Option Value)} {x : Int32} (hd : decode K.2.1 pc = .ok (.iload 9, 2)) (hp : pc + 2 = pc') (kk : Ev l K G R n u w pc' (o0 :: o1 :: o2 :: o3 :: o4 :: o5 :: o6 :: o7 :: o8 :: some (.int x) :: r) (.int x :: st) M) : Ev l K G R n u w pc (o0 :: o1 :: o2 :: o3 :: o4 :: o5 :: o6 :: o7 :: o8 :: some (.int x) :: r) st M :=
  e_iload (i := 9) hd hp rfl kk

theorem e_iload_10 {o0 o1 o2 o3 o4 o5 o6 o7 o8 o9 : Option Value} {r : List (Option Value)} {x : Int32} (hd : decode K.2.1 pc = .ok (.iload 10, 2)) (hp : pc + 2 = pc') (kk : Ev l K G R n u w pc' (o0 :: o1 :: o2 :: o3 :: o4 :: o5 :: o6 :: o7 :: o8 :: o9 :: some (.int x) :: r) (.int x :: st) M) : Ev l K G R n u w pc (o0 :: o1 :: o2 :: o3 :: o4 :: o5 :: o6 :: o7 :: o8 :: o9 :: some (.int x) :: r) st M :=
  e_iload (i := 10) hd hp rfl kk

theorem e_iload_11 {o0 o1 o2 o3 o4 o5 o6 o7 o8 o9 o10 : Option Value} {r : List (Option Value)} {x : Int32} (hd : decode K.2.1 pc = .ok (.iload 11, 2)) (hp : pc + 2 = pc') (kk : Ev l K G R n u w pc' (o0 :: o1 :: o2 :: o3 :: o4 :: o5 :: o6 :: o7 :: o8 :: o9 :: o10 :: some (.int x) :: r) (.int x :: st) M) : Ev l K G R n u w pc (o0 :: o1 :: o2 :: o3 :: o4 :: o5 :: o6 :: o7 :: o8 :: o9 :: o10 :: some (.int x) :: r) st M :=
  e_iload (i := 11) hd hp rfl kk

theorem e_aload_n {i : Nat} {x : Nat} {k : Fin 4} (hi : (k : Nat) = i) (hd : decode K.2.1 pc = .ok (.aload_n k, 1)) (hp : pc + 1 = pc') (h : lo[i]? = some (some (.ref x))) (kk : Ev l K G R n u w pc' lo (.ref x :: st) M) : Ev l K G R n u w pc lo st M := by
  subst hp
  exact fun p e s m args below meth c D cy L A H locs ls X hl hP hS => lv_aload_n X.1 X.2.1 hd hi (pm_get hl h) (kk p e s m args below meth c D cy L A H locs ls X hl hP hS)

theorem e_aload {i : Nat} {x : Nat} (hd : decode K.2.1 pc = .ok (.aload i, 2)) (hp : pc + 2 = pc') (h : lo[i]? = some (some (.ref x))) (kk : Ev l K G R n u w pc' lo (.ref x :: st) M) : Ev l K G R n u w pc lo st M := by
  subst hp
  exact fun p e s m args below meth c D cy L A H locs ls X hl hP hS => lv_aload X.1 X.2.1 hd (pm_get hl h) (kk p e s m args below meth c D cy L A H locs ls X hl hP hS)

theorem e_aload_0 {r : List (Option Value)} {x : Nat} (hd : decode K.2.1 pc = .ok (.aload_n 0, 1)) (hp : pc + 1 = pc') (kk : Ev l K G R n u w pc' (some (.ref x) :: r) (.ref x :: st) M) : Ev l K G R n u w pc (some (.ref x) :: r) st M :=
  e_aload_n (k := 0) (i := 0) rfl hd hp rfl kk

theorem e_aload_1 {o0 : Option Value} {r : List (Option Value)} {x : Nat} (hd : decode K.2.1 pc = .ok (.aload_n 1, 1)) (hp : pc + 1 = pc') (kk : Ev l K G R n u w pc' (o0 :: some (.ref x) :: r) (.ref x :: st) M) : Ev l K G R n u w pc (o0 :: some (.ref x) :: r) st M :=
  e_aload_n (k := 1) (i := 1) rfl hd hp rfl kk

theorem e_aload_2 {o0 o1 : Option Value} {r : List (Option Value)} {x : Nat} (hd : decode K.2.1 pc = .ok (.aload_n 2, 1)) (hp : pc + 1 = pc') (kk : Ev l K G R n u w pc' (o0 :: o1 :: some (.ref x) :: r) (.ref x :: st) M) : Ev l K G R n u w pc (o0 :: o1 :: some (.ref x) :: r) st M :=
  e_aload_n (k := 2) (i := 2) rfl hd hp rfl kk

theorem e_aload_3 {o0 o1 o2 : Option Value} {r : List (Option Value)} {x : Nat} (hd : decode K.2.1 pc = .ok (.aload_n 3, 1)) (hp : pc + 1 = pc') (kk : Ev l K G R n u w pc' (o0 :: o1 :: o2 :: some (.ref x) :: r) (.ref x :: st) M) : Ev l K G R n u w pc (o0 :: o1 :: o2 :: some (.ref x) :: r) st M :=
  e_aload_n (k := 3) (i := 3) rfl hd hp rfl kk

theorem e_aload_4 {o0 o1 o2 o3 : Option Value} {r : List (Option Value)} {x : Nat} (hd : decode K.2.1 pc = .ok (.aload 4, 2)) (hp : pc + 2 = pc') (kk : Ev l K G R n u w pc' (o0 :: o1 :: o2 :: o3 :: some (.ref x) :: r) (.ref x :: st) M) : Ev l K G R n u w pc (o0 :: o1 :: o2 :: o3 :: some (.ref x) :: r) st M :=
  e_aload (i := 4) hd hp rfl kk

theorem e_aload_5 {o0 o1 o2 o3 o4 : Option Value} {r : List (Option Value)} {x : Nat} (hd : decode K.2.1 pc = .ok (.aload 5, 2)) (hp : pc + 2 = pc') (kk : Ev l K G R n u w pc' (o0 :: o1 :: o2 :: o3 :: o4 :: some (.ref x) :: r) (.ref x :: st) M) : Ev l K G R n u w pc (o0 :: o1 :: o2 :: o3 :: o4 :: some (.ref x) :: r) st M :=
  e_aload (i := 5) hd hp rfl kk

theorem e_aload_6 {o0 o1 o2 o3 o4 o5 : Option Value} {r : List (Option Value)} {x : Nat} (hd : decode K.2.1 pc = .ok (.aload 6, 2)) (hp : pc + 2 = pc') (kk : Ev l K G R n u w pc' (o0 :: o1 :: o2 :: o3 :: o4 :: o5 :: some (.ref x) :: r) (.ref x :: st) M) : Ev l K G R n u w pc (o0 :: o1 :: o2 :: o3 :: o4 :: o5 :: some (.ref x) :: r) st M :=
  e_aload (i := 6) hd hp rfl kk

theorem e_aload_7 {o0 o1 o2 o3 o4 o5 o6 : Option Value} {r : List (Option Value)} {x : Nat} (hd : decode K.2.1 pc = .ok (.aload 7, 2)) (hp : pc + 2 = pc') (kk : Ev l K G R n u w pc' (o0 :: o1 :: o2 :: o3 :: o4 :: o5 :: o6 :: some (.ref x) :: r) (.ref x :: st) M) : Ev l K G R n u w pc (o0 :: o1 :: o2 :: o3 :: o4 :: o5 :: o6 :: some (.ref x) :: r) st M :=
  e_aload (i := 7) hd hp rfl kk

theorem e_aload_8 {o0 o1 o2 o3 o4 o5 o6 o7 : Option Value} {r : List (Option Value)} {x : Nat} (hd : decode K.2.1 pc = .ok (.aload 8, 2)) (hp : pc + 2 = pc') (kk : Ev l K G R n u w pc' (o0 :: o1 :: o2 :: o3 :: o4 :: o5 :: o6 :: o7 :: some (.ref x) :: r) (.ref x :: st) M) : Ev l K G R n u w pc (o0 :: o1 :: o2 :: o3 :: o4 :: o5 :: o6 :: o7 :: some (.ref x) :: r) st M :=
  e_aload (i := 8) hd hp rfl kk

theorem e_aload_9 {o0 o1 o2 o3 o4 o5 o6 o7 o8 : Option Value} {r : List (Option Value)} {x : Nat} (hd : decode K.2.1 pc = .ok (.aload 9, 2)) (hp : pc + 2 = pc') (kk : Ev l K G R n u w pc' (o0 :: o1 :: o2 :: o3 :: o4 :: o5 :: o6 :: o7 :: o8 :: some (.ref x) :: r) (.ref x :: st) M) : Ev l K G R n u w pc (o0 :: o1 :: o2 :: o3 :: o4 :: o5 :: o6 :: o7 :: o8 :: some (.ref x) :: r) st M :=
  e_aload (i := 9) hd hp rfl kk

theorem e_aload_10 {o0 o1 o2 o3 o4 o5 o6 o7 o8 o9 : Option Value} {r : List (Option Value)} {x : Nat} (hd : decode K.2.1 pc = .ok (.aload 10, 2)) (hp : pc + 2 = pc') (kk : Ev l K G R n u w pc' (o0 :: o1 :: o2 :: o3 :: o4 :: o5 :: o6 :: o7 :: o8 :: o9 :: some (.ref x) :: r) (.ref x :: st) M) : Ev l K G R n u w pc (o0 :: o1 :: o2 :: o3 :: o4 :: o5 :: o6 :: o7 :: o8 :: o9 :: some (.ref x) :: r) st M :=
  e_aload (i := 10) hd hp rfl kk

theorem e_aload_11 {o0 o1 o2 o3 o4 o5 o6 o7 o8 o9 o10 : Option Value} {r : List (Option Value)} {x : Nat} (hd : decode K.2.1 pc = .ok (.aload 11, 2)) (hp : pc + 2 = pc') (kk : Ev l K G R n u w pc' (o0 :: o1 :: o2 :: o3 :: o4 :: o5 :: o6 :: o7 :: o8 :: o9 :: o10 :: some (.ref x) :: r) (.ref x :: st) M) : Ev l K G R n u w pc (o0 :: o1 :: o2 :: o3 :: o4 :: o5 :: o6 :: o7 :: o8 :: o9 :: o10 :: some (.ref x) :: r) st M :=
  e_aload (i := 11) hd hp rfl kk

theorem e_fload_n {i : Nat} {x : UInt32} {k : Fin 4} (hi : (k : Nat) = i) (hd : decode K.2.1 pc = .ok (.fload_n k, 1)) (hp : pc + 1 = pc') (h : lo[i]? = some (some (.float x))) (kk : Ev l K G R n u w pc' lo (.float x :: st) M) : Ev l K G R n u w pc lo st M := by
  subst hp
  exact fun p e s m args below meth c D cy L A H locs ls X hl hP hS => lv_fload_n X.1 X.2.1 hd hi (pm_get hl h) (kk p e s m args below meth c D cy L A H locs ls X hl hP hS)

theorem e_fload {i : Nat} {x : UInt32} (hd : decode K.2.1 pc = .ok (.fload i, 2)) (hp : pc + 2 = pc') (h : lo[i]? = some (some (.float x))) (kk : Ev l K G R n u w pc' lo (.float x :: st) M) : Ev l K G R n u w pc lo st M := by
  subst hp
  exact fun p e s m args below meth c D cy L A H locs ls X hl hP hS => lv_fload X.1 X.2.1 hd (pm_get hl h) (kk p e s m args below meth c D cy L A H locs ls X hl hP hS)

theorem e_fload_3 {o0 o1 o2 : Option Value} {r : List (Option Value)} {x : UInt32} (hd : decode K.2.1 pc = .ok (.fload_n 3, 1)) (hp : pc + 1 = pc') (kk : Ev l K G R n u w pc' (o0 :: o1 :: o2 :: some (.float x) :: r) (.float x :: st) M) : Ev l K G R n u w pc (o0 :: o1 :: o2 :: some (.float x) :: r) st M :=
  e_fload_n (k := 3) (i := 3) rfl hd hp rfl kk

theorem e_dload_n {i : Nat} {x : UInt64} {k : Fin 4} (hi : (k : Nat) = i) (hd : decode K.2.1 pc = .ok (.dload_n k, 1)) (hp : pc + 1 = pc') (h : lo[i]? = some (some (.double x))) (kk : Ev l K G R n u w pc' lo (.double x :: st) M) : Ev l K G R n u w pc lo st M := by
  subst hp
  exact fun p e s m args below meth c D cy L A H locs ls X hl hP hS => lv_dload_n X.1 X.2.1 hd hi (pm_get hl h) (kk p e s m args below meth c D cy L A H locs ls X hl hP hS)

theorem e_dload {i : Nat} {x : UInt64} (hd : decode K.2.1 pc = .ok (.dload i, 2)) (hp : pc + 2 = pc') (h : lo[i]? = some (some (.double x))) (kk : Ev l K G R n u w pc' lo (.double x :: st) M) : Ev l K G R n u w pc lo st M := by
  subst hp
  exact fun p e s m args below meth c D cy L A H locs ls X hl hP hS => lv_dload X.1 X.2.1 hd (pm_get hl h) (kk p e s m args below meth c D cy L A H locs ls X hl hP hS)

theorem e_dload_2 {o0 o1 : Option Value} {r : List (Option Value)} {x : UInt64} (hd : decode K.2.1 pc = .ok (.dload_n 2, 1)) (hp : pc + 1 = pc') (kk : Ev l K G R n u w pc' (o0 :: o1 :: some (.double x) :: r) (.double x :: st) M) : Ev l K G R n u w pc (o0 :: o1 :: some (.double x) :: r) st M :=
  e_dload_n (k := 2) (i := 2) rfl hd hp rfl kk

theorem e_dload_3 {o0 o1 o2 : Option Value} {r : List (Option Value)} {x : UInt64} (hd : decode K.2.1 pc = .ok (.dload_n 3, 1)) (hp : pc + 1 = pc') (kk : Ev l K G R n u w pc' (o0 :: o1 :: o2 :: some (.double x) :: r) (.double x :: st) M) : Ev l K G R n u w pc (o0 :: o1 :: o2 :: some (.double x) :: r) st M :=
  e_dload_n (k := 3) (i := 3) rfl hd hp rfl kk

theorem e_dload_4 {o0 o1 o2 o3 : Option Value} {r : List (Option Value)} {x : UInt64} (hd : decode K.2.1 pc = .ok (.dload 4, 2)) (hp : pc + 2 = pc') (kk : Ev l K G R n u w pc' (o0 :: o1 :: o2 :: o3 :: some (.double x) :: r) (.double x :: st) M) : Ev l K G R n u w pc (o0 :: o1 :: o2 :: o3 :: some (.double x) :: r) st M :=
  e_dload (i := 4) hd hp rfl kk

theorem e_dload_5 {o0 o1 o2 o3 o4 : Option Value} {r : List (Option Value)} {x : UInt64} (hd : decode K.2.1 pc = .ok (.dload 5, 2)) (hp : pc + 2 = pc') (kk : Ev l K G R n u w pc' (o0 :: o1 :: o2 :: o3 :: o4 :: some (.double x) :: r) (.double x :: st) M) : Ev l K G R n u w pc (o0 :: o1 :: o2 :: o3 :: o4 :: some (.double x) :: r) st M :=
  e_dload (i := 5) hd hp rfl kk

theorem e_dload_6 {o0 o1 o2 o3 o4 o5 : Option Value} {r : List (Option Value)} {x : UInt64} (hd : decode K.2.1 pc = .ok (.dload 6, 2)) (hp : pc + 2 = pc') (kk : Ev l K G R n u w pc' (o0 :: o1 :: o2 :: o3 :: o4 :: o5 :: some (.double x) :: r) (.double x :: st) M) : Ev l K G R n u w pc (o0 :: o1 :: o2 :: o3 :: o4 :: o5 :: some (.double x) :: r) st M :=
  e_dload (i := 6) hd hp rfl kk

theorem e_dload_7 {o0 o1 o2 o3 o4 o5 o6 : Option Value} {r : List (Option Value)} {x : UInt64} (hd : decode K.2.1 pc = .ok (.dload 7, 2)) (hp : pc + 2 = pc') (kk : Ev l K G R n u w pc' (o0 :: o1 :: o2 :: o3 :: o4 :: o5 :: o6 :: some (.double x) :: r) (.double x :: st) M) : Ev l K G R n u w pc (o0 :: o1 :: o2 :: o3 :: o4 :: o5 :: o6 :: some (.double x) :: r) st M :=
  e_dload (i := 7) hd hp rfl kk

theorem e_dload_8 {o0 o1 o2 o3 o4 o5 o6 o7 : Option Value} {r : List (Option Value)} {x : UInt64} (hd : decode K.2.1 pc = .ok (.dload 8, 2)) (hp : pc + 2 = pc') (kk : Ev l K G R n u w pc' (o0 :: o1 :: o2 :: o3 :: o4 :: o5 :: o6 :: o7 :: some (.double x) :: r) (.double x :: st) M) : Ev l K G R n u w pc (o0 :: o1 :: o2 :: o3 :: o4 :: o5 :: o6 :: o7 :: some (.double x) :: r) st M :=
  e_dload (i := 8) hd hp rfl kk

theorem e_dload_9 {o0 o1 o2 o3 o4 o5 o6 o7 o8 : Option Value} {r : List (Option Value)} {x : UInt64} (hd : decode K.2.1 pc = .ok (.dload 9, 2)) (hp : pc + 2 = pc') (kk : Ev l K G R n u w pc' (o0 :: o1 :: o2 :: o3 :: o4 :: o5 :: o6 :: o7 :: o8 :: some (.double x) :: r) (.double x :: st) M) : Ev l K G R n u w pc (o0 :: o1 :: o2 :: o3 :: o4 :: o5 :: o6 :: o7 :: o8 :: some (.double x) :: r) st M :=
  e_dload (i := 9) hd hp rfl kk

theorem e_dload_10 {o0 o1 o2 o3 o4 o5 o6 o7 o8 o9 : Option Value} {r : List (Option Value)} {x : UInt64} (hd : decode K.2.1 pc = .ok (.dload 10, 2)) (hp : pc + 2 = pc') (kk : Ev l K G R n u w pc' (o0 :: o1 :: o2 :: o3 :: o4 :: o5 :: o6 :: o7 :: o8 :: o9 :: some (.double x) :: r) (.double x :: st) M) : Ev l K G R n u w pc (o0 :: o1 :: o2 :: o3 :: o4 :: o5 :: o6 :: o7 :: o8 :: o9 :: some (.double x) :: r) st M :=
  e_dload (i := 10) hd hp rfl kk

theorem e_dload_11 {o0 o1 o2 o3 o4 o5 o6 o7 o8 o9 o10 : Option Value} {r : List (Option Value)} {x : UInt64} (hd : decode K.2.1 pc = .ok (.dload 11, 2)) (hp : pc + 2 = pc') (kk : Ev l K G R n u w pc' (o0 :: o1 :: o2 :: o3 :: o4 :: o5 :: o6 :: o7 :: o8 :: o9 :: o10 :: some (.double x) :: r) (.double x :: st) M) : Ev l K G R n u w pc (o0 :: o1 :: o2 :: o3 :: o4 :: o5 :: o6 :: o7 :: o8 :: o9 :: o10 :: some (.double x) :: r) st M :=
  e_dload (i := 11) hd hp rfl kk

theorem e_istore_n {i : Nat} {x : Int32} {lo' : List (Option Value)} {k : Fin 4} (hi : (k : Nat) = i) (hd : decode K.2.1 pc = .ok (.istore_n k, 1)) (hp : pc + 1 = pc') (hn : i < K.2.2.1) (hw : ∀ k o, k + 1 = i → lo[k]? = some o → pmNW o = true) (he : lo.set i (some (.int x)) = lo') (kk : Ev l K G R n u w pc' lo' st M) : Ev l K G R n u w pc lo (.int x :: st) M := by
  subst hp
  subst he
  exact fun p e s m args below meth c D cy L A H locs ls X hl hP hS => lv_istore_n X.1 X.2.1 hd hi hl hn rfl (fun ls' hl' => kk p e s m args below meth c D cy L A H locs ls' X (pm_store (v := .int x) hl' hw) hP hS)

theorem e_istore {i : Nat} {x : Int32} {lo' : List (Option Value)} (hd : decode K.2.1 pc = .ok (.istore i, 2)) (hp : pc + 2 = pc') (hn : i < K.2.2.1) (hw : ∀ k o, k + 1 = i → lo[k]? = some o → pmNW o = true) (he : lo.set i (some (.int x)) = lo') (kk : Ev l K G R n u w pc' lo' st M) : Ev l K G R n u w pc lo (.int x :: st) M := by
  subst hp
  subst he
  exact fun p e s m args below meth c D cy L A H locs ls X hl hP hS => lv_istore X.1 X.2.1 hd hl hn rfl (fun ls' hl' => kk p e s m args below meth c D cy L A H locs ls' X (pm_store (v := .int x) hl' hw) hP hS)

theorem e_istore_0 {o0 : Option Value} {r : List (Option Value)} {x : Int32} (hd : decode K.2.1 pc = .ok (.istore_n 0, 1)) (hp : pc + 1 = pc') (hn : 0 < K.2.2.1) (kk : Ev l K G R n u w pc' (some (.int x) :: r) st M) : Ev l K G R n u w pc (o0 :: r) (.int x :: st) M :=
  e_istore_n (k := 0) (i := 0) rfl hd hp hn (fun k o e _ => absurd e (Nat.succ_ne_zero k)) rfl kk

theorem e_istore_1 {o0 o1 : Option Value} {r : List (Option Value)} {x : Int32} (hd : decode K.2.1 pc = .ok (.istore_n 1, 1)) (hp : pc + 1 = pc') (hn : 1 < K.2.2.1) (hw : pmNW o0 = true) (kk : Ev l K G R n u w pc' (o0 :: some (.int x) :: r) st M) : Ev l K G R n u w pc (o0 :: o1 :: r) (.int x :: st) M :=
  e_istore_n (k := 1) (i := 1) rfl hd hp hn (fun k o e h => by cases (show k = 0 by omega); cases h; exact hw) rfl kk

theorem e_istore_2 {o0 o1 o2 : Option Value} {r : List (Option Value)} {x : Int32} (hd : decode K.2.1 pc = .ok (.istore_n 2, 1)) (hp : pc + 1 = pc') (hn : 2 < K.2.2.1) (hw : pmNW o1 = true) (kk : Ev l K G R n u w pc' (o0 :: o1 :: some (.int x) :: r) st M) : Ev l K G R n u w pc (o0 :: o1 :: o2 :: r) (.int x :: st) M :=
  e_istore_n (k := 2) (i := 2) rfl hd hp hn (fun k o e h => by cases (show k = 1 by omega); cases h; exact hw) rfl kk

theorem e_istore_3 {o0 o1 o2 o3 : Option Value} {r : List (Option Value)} {x : Int32} (hd : decode K.2.1 pc = .ok (.istore_n 3, 1)) (hp : pc + 1 = pc') (hn : 3 < K.2.2.1) (hw : pmNW o2 = true) (kk : Ev l K G R n u w pc' (o0 :: o1 :: o2 :: some (.int x) :: r) st M) : Ev l K G R n u w pc (o0 :: o1 :: o2 :: o3 :: r) (.int x :: st) M :=
  e_istore_n (k := 3) (i := 3) rfl hd hp hn (fun k o e h => by cases (show k = 2 by omega); cases h; exact hw) rfl kk

theorem e_istore_4 {o0 o1 o2 o3 o4 : Option Value} {r : List (Option Value)} {x : Int32} (hd : decode K.2.1 pc = .ok (.istore 4, 2)) (hp : pc + 2 = pc') (hn : 4 < K.2.2.1) (hw : pmNW o3 = true) (kk : Ev l K G R n u w pc' (o0 :: o1 :: o2 :: o3 :: some (.int x) :: r) st M) : Ev l K G R n u w pc (o0 :: o1 :: o2 :: o3 :: o4 :: r) (.int x :: st) M :=
  e_istore (i := 4) hd hp hn (fun k o e h => by cases (show k = 3 by omega); cases h; exact hw) rfl kk

theorem e_istore_5 {o0 o1 o2 o3 o4 o5 : Option Value} {r : List (Option Value)} {x : Int32} (hd : decode K.2.1 pc = .ok (.istore 5, 2)) (hp : pc + 2 = pc') (hn : 5 < K.2.2.1) (hw : pmNW o4 = true) (kk : Ev l K G R n u w pc' (o0 :: o1 :: o2 :: o3 :: o4 :: some (.int x) :: r) st M) : Ev l K G R n u w pc (o0 :: o1 :: o2 :: o3 :: o4 :: o5 :: r) (.int x :: st) M :=
  e_istore (i := 5) hd hp hn (fun k o e h => by cases (show k = 4 by omega); cases h; exact hw) rfl kk

theorem e_istore_6 {o0 o1 o2 o3 o4 o5 o6 : Option Value} {r : List (Option Value)} {x : Int32} (hd : decode K.2.1 pc = .ok (.istore 6, 2)) (hp : pc + 2 = pc') (hn : 6 < K.2.2.1) (hw : pmNW o5 = true) (kk : Ev l K G R n u w pc' (o0 :: o1 :: o2 :: o3 :: o4 :: o5 :: some (.int x) :: r) st M) : Ev l K G R n u w pc (o0 :: o1 :: o2 :: o3 :: o4 :: o5 :: o6 :: r) (.int x :: st) M :=
  e_istore (i := 6) hd hp hn (fun k o e h => by cases (show k = 5 by omega); cases h; exact hw) rfl kk

theorem e_istore_7 {o0 o1 o2 o3 o4 o5 o6 o7 : Option Value} {r : List (Option Value)} {x : Int32} (hd : decode K.2.1 pc = .ok (.istore 7, 2)) (hp : pc + 2 = pc') (hn : 7 < K.2.2.1) (hw : pmNW o6 = true) (kk : Ev l K G R n u w pc' (o0 :: o1 :: o2 :: o3 :: o4 :: o5 :: o6 :: some (.int x) :: r) st M) : Ev l K G R n u w pc (o0 :: o1 :: o2 :: o3 :: o4 :: o5 :: o6 :: o7 :: r) (.int x :: st) M :=
  e_istore (i := 7) hd hp hn (fun k o e h => by cases (show k = 6 by omega); cases h; exact hw) rfl kk

theorem e_istore_8 {o0 o1 o2 o3 o4 o5 o6 o7 o8 : Option Value} {r : List (Option Value)} {x : Int32} (hd : decode K.2.1 pc = .ok (.istore 8, 2)) (hp : pc + 2 = pc') (hn : 8 < K.2.2.1) (hw : pmNW o7 = true) (kk : Ev l K G R n u w pc' (o0 :: o1 :: o2 :: o3 :: o4 :: o5 :: o6 :: o7 :: some (.int x) :: r) st M) : Ev l K G R n u w pc (o0 :: o1 :: o2 :: o3 :: o4 :: o5 :: o6 :: o7 :: o8 :: r) (.int x :: st) M :=
  e_istore (i := 8) hd hp hn (fun k o e h => by cases (show k = 7 by omega); cases h; exact hw) rfl kk

theorem e_istore_9 {o0 o1 o2 o3 o4 o5 o6 o7 o8 o9 : Option Value} {r : List (Option Value)} {x : Int32} (hd : decode K.2.1 pc = .ok (.istore 9, 2)) (hp : pc + 2 = pc') (hn : 9 < K.2.2.1) (hw : pmNW o8 = true) (kk : Ev l K G R n u w pc' (o0 :: o1 :: o2 :: o3 :: o4 :: o5 :: o6 :: o7 :: o8 :: some (.int x) :: r) st M) : Ev l K G R n u w pc (o0 :: o1 :: o2 :: o3 :: o4 :: o5 :: o6 :: o7 :: o8 :: o9 :: r) (.int x :: st) M :=
  e_istore (i := 9) hd hp hn (fun k o e h => by cases (show k = 8 by omega); cases h; exact hw) rfl kk

theorem e_istore_10 {o0 o1 o2 o3 o4 o5 o6 o7 o8 o9 o10 : Option Value} {r : List (Option Value)} {x : Int32} (hd : decode K.2.1 pc = .ok (.istore 10, 2)) (hp : pc + 2 = pc') (hn : 10 < K.2.2.1) (hw : pmNW o9 = true) (kk : Ev l K G R n u w pc' (o0 :: o1 :: o2 :: o3 :: o4 :: o5 :: o6 :: o7 :: o8 :: o9 :: some (.int x) :: r) st M) : Ev l K G R n u w pc (o0 :: o1 :: o2 :: o3 :: o4 :: o5 :: o6 :: o7 :: o8 :: o9 :: o10 :: r) (.int x :: st) M :=
  e_istore (i := 10) hd hp hn (fun k o e h => by cases (show k = 9 by omega); cases h; exact hw) rfl kk

theorem e_istore_11 {o0 o1 o2 o3 o4 o5 o6 o7 o8 o9 o10 o11 : Option Value} {r : List (Option Value)} {x : Int32} (hd : decode K.2.1 pc = .ok (.istore 11, 2)) (hp : pc + 2 = pc') (hn : 11 < K.2.2.1) (hw : pmNW o10 = true) (kk : Ev l K G R n u w pc' (o0 :: o1 :: o2 :: o3 :: o4 :: o5 :: o6 :: o7 :: o8 :: o9 :: o10 :: some (.int x) :: r) st M) : Ev l K G R n u w pc (o0 :: o1 :: o2 :: o3 :: o4 :: o5 :: o6 :: o7 :: o8 :: o9 :: o10 :: o11 :: r) (.int x :: st) M :=
  e_istore (i := 11) hd hp hn (fun k o e h => by cases (show k = 10 by omega); cases h; exact hw) rfl kk

theorem e_astore_n {i : Nat} {x : Nat} {lo' : List (Option Value)} {k : Fin 4} (hi : (k : Nat) = i) (hd : decode K.2.1 pc = .ok (.astore_n k, 1)) (hp : pc + 1 = pc') (hn : i < K.2.2.1) (hw : ∀ k o, k + 1 = i → lo[k]? = some o → pmNW o = true) (he : lo.set i (some (.ref x)) = lo') (kk : Ev l K G R n u w pc' lo' st M) : Ev l K G R n u w pc lo (.ref x :: st) M := by
  subst hp
  subst he
  exact fun p e s m args below meth c D cy L A H locs ls X hl hP hS => lv_astore_n X.1 X.2.1 hd hi hl hn rfl (fun ls' hl' => kk p e s m args below meth c D cy L A H locs ls' X (pm_store (v := .ref x) hl' hw) hP hS)

theorem e_astore {i : Nat} {x : Nat} {lo' : List (Option Value)} (hd : decode K.2.1 pc = .ok (.astore i, 2)) (hp : pc + 2 = pc') (hn : i < K.2.2.1) (hw : ∀ k o, k + 1 = i → lo[k]? = some o → pmNW o = true) (he : lo.set i (some (.ref x)) = lo') (kk : Ev l K G R n u w pc' lo' st M) : Ev l K G R n u w pc lo (.ref x :: st) M := by
  subst hp
  subst he
  exact fun p e s m args below meth c D cy L A H locs ls X hl hP hS => lv_astore X.1 X.2.1 hd hl hn rfl (fun ls' hl' => kk p e s m args below meth c D cy L A H locs ls' X (pm_store (v := .ref x) hl' hw) hP hS)

theorem e_astore_0 {o0 : Option Value} {r : List (Option Value)} {x : Nat} (hd : decode K.2.1 pc = .ok (.astore_n 0, 1)) (hp : pc + 1 = pc') (hn : 0 < K.2.2.1) (kk : Ev l K G R n u w pc' (some (.ref x) :: r) st M) : Ev l K G R n u w pc (o0 :: r) (.ref x :: st) M :=
  e_astore_n (k := 0) (i := 0) rfl hd hp hn (fun k o e _ => absurd e (Nat.succ_ne_zero k)) rfl kk

theorem e_astore_1 {o0 o1 : Option Value} {r : List (Option Value)} {x : Nat} (hd : decode K.2.1 pc = .ok (.astore_n 1, 1)) (hp : pc + 1 = pc') (hn : 1 < K.2.2.1) (hw : pmNW o0 = true) (kk : Ev l K G R n u w pc' (o0 :: some (.ref x) :: r) st M) : Ev l K G R n u w pc (o0 :: o1 :: r) (.ref x :: st) M :=
  e_astore_n (k := 1) (i := 1) rfl hd hp hn (fun k o e h => by cases (show k = 0 by omega); cases h; exact hw) rfl kk

theorem e_astore_2 {o0 o1 o2 : Option Value} {r : List (Option Value)} {x : Nat} (hd : decode K.2.1 pc = .ok (.astore_n 2, 1)) (hp : pc + 1 = pc') (hn : 2 < K.2.2.1) (hw : pmNW o1 = true) (kk : Ev l K G R n u w pc' (o0 :: o1 :: some (.ref x) :: r) st M) : Ev l K G R n u w pc (o0 :: o1 :: o2 :: r) (.ref x :: st) M :=
  e_astore_n (k := 2) (i := 2) rfl hd hp hn (fun k o e h => by cases (show k = 1 by omega); cases h; exact hw) rfl kk

theorem e_astore_3 {o0 o1 o2 o3 : Option Value} {r : List (Option Value)} {x : Nat} (hd : decode K.2.1 pc = .ok (.astore_n 3, 1)) (hp : pc + 1 = pc') (hn : 3 < K.2.2.1) (hw : pmNW o2 = true) (kk : Ev l K G R n u w pc' (o0 :: o1 :: o2 :: some (.ref x) :: r) st M) : Ev l K G R n u w pc (o0 :: o1 :: o2 :: o3 :: r) (.ref x :: st) M :=
  e_astore_n (k := 3) (i := 3) rfl hd hp hn (fun k o e h => by cases (show k = 2 by omega); cases h; exact hw) rfl kk

theorem e_astore_4 {o0 o1 o2 o3 o4 : Option Value} {r : List (Option Value)} {x : Nat} (hd : decode K.2.1 pc = .ok (.astore 4, 2)) (hp : pc + 2 = pc') (hn : 4 < K.2.2.1) (hw : pmNW o3 = true) (kk : Ev l K G R n u w pc' (o0 :: o1 :: o2 :: o3 :: some (.ref x) :: r) st M) : Ev l K G R n u w pc (o0 :: o1 :: o2 :: o3 :: o4 :: r) (.ref x :: st) M :=
  e_astore (i := 4) hd hp hn (fun k o e h => by cases (show k = 3 by omega); cases h; exact hw) rfl kk

theorem e_astore_5 {o0 o1 o2 o3 o4 o5 : Option Value} {r : List (Option Value)} {x : Nat} (hd : decode K.2.1 pc = .ok (.astore 5, 2)) (hp : pc + 2 = pc') (hn : 5 < K.2.2.1) (hw : pmNW o4 = true) (kk : Ev l K G R n u w pc' (o0 :: o1 :: o2 :: o3 :: o4 :: some (.ref x) :: r) st M) : Ev l K G R n u w pc (o0 :: o1 :: o2 :: o3 :: o4 :: o5 :: r) (.ref x :: st) M :=
  e_astore (i := 5) hd hp hn (fun k o e h => by cases (show k = 4 by omega); cases h; exact hw) rfl kk

theorem e_astore_6 {o0 o1 o2 o3 o4 o5 o6 : Option Value} {r : List (Option Value)} {x : Nat} (hd : decode K.2.1 pc = .ok (.astore 6, 2)) (hp : pc + 2 = pc') (hn : 6 < K.2.2.1) (hw : pmNW o5 = true) (kk : Ev l K G R n u w pc' (o0 :: o1 :: o2 :: o3 :: o4 :: o5 :: some (.ref x) :: r) st M) : Ev l K G R n u w pc (o0 :: o1 :: o2 :: o3 :: o4 :: o5 :: o6 :: r) (.ref x :: st) M :=
  e_astore (i := 6) hd hp hn (fun k o e h => by cases (show k = 5 by omega); cases h; exact hw) rfl kk

theorem e_astore_7 {o0 o1 o2 o3 o4 o5 o6 o7 : Option Value} {r : List (Option Value)} {x : Nat} (hd : decode K.2.1 pc = .ok (.astore 7, 2)) (hp : pc + 2 = pc') (hn : 7 < K.2.2.1) (hw : pmNW o6 = true) (kk : Ev l K G R n u w pc' (o0 :: o1 :: o2 :: o3 :: o4 :: o5 :: o6 :: some (.ref x) :: r) st M) : Ev l K G R n u w pc (o0 :: o1 :: o2 :: o3 :: o4 :: o5 :: o6 :: o7 :: r) (.ref x :: st) M :=
  e_astore (i := 7) hd hp hn (fun k o e h => by cases (show k = 6 by omega); cases h; exact hw) rfl kk

theorem e_astore_8 {o0 o1 o2 o3 o4 o5 o6 o7 o8 : Option Value} {r : List (Option Value)} {x : Nat} (hd : decode K.2.1 pc = .ok (.astore 8, 2)) (hp : pc + 2 = pc') (hn : 8 < K.2.2.1) (hw : pmNW o7 = true) (kk : Ev l K G R n u w pc' (o0 :: o1 :: o2 :: o3 :: o4 :: o5 :: o6 :: o7 :: some (.ref x) :: r) st M) : Ev l K G R n u w pc (o0 :: o1 :: o2 :: o3 :: o4 :: o5 :: o6 :: o7 :: o8 :: r) (.ref x :: st) M :=
  e_astore (i := 8) hd hp hn (fun k o e h => by cases (show k = 7 by omega); cases h; exact hw) rfl kk

theorem e_astore_9 {o0 o1 o2 o3 o4 o5 o6 o7 o8 o9 : Option Value} {r : List (Option Value)} {x : Nat} (hd : decode K.2.1 pc = .ok (.astore 9, 2)) (hp : pc + 2 = pc') (hn : 9 < K.2.2.1) (hw : pmNW o8 = true) (kk : Ev l K G R n u w pc' (o0 :: o1 :: o2 :: o3 :: o4 :: o5 :: o6 :: o7 :: o8 :: some (.ref x) :: r) st M) : Ev l K G R n u w pc (o0 :: o1 :: o2 :: o3 :: o4 :: o5 :: o6 :: o7 :: o8 :: o9 :: r) (.ref x :: st) M :=
  e_astore (i := 9) hd hp hn (fun k o e h => by cases (show k = 8 by omega); cases h; exact hw) rfl kk

theorem e_astore_10 {o0 o1 o2 o3 o4 o5 o6 o7 o8 o9 o10 : Option Value} {r : List (Option Value)} {x : Nat} (hd : decode K.2.1 pc = .ok (.astore 10, 2)) (hp : pc + 2 = pc') (hn : 10 < K.2.2.1) (hw : pmNW o9 = true) (kk : Ev l K G R n u w pc' (o0 :: o1 :: o2 :: o3 :: o4 :: o5 :: o6 :: o7 :: o8 :: o9 :: some (.ref x) :: r) st M) : Ev l K G R n u w pc (o0 :: o1 :: o2 :: o3 :: o4 :: o5 :: o6 :: o7 :: o8 :: o9 :: o10 :: r) (.ref x :: st) M :=
  e_astore (i := 10) hd hp hn (fun k o e h => by cases (show k = 9 by omega); cases h; exact hw) rfl kk

theorem e_astore_11 {o0 o1 o2 o3 o4 o5 o6 o7 o8 o9 o10 o11 : Option Value} {r : List (Option Value)} {x : Nat} (hd : decode K.2.1 pc = .ok (.astore 11, 2)) (hp : pc + 2 = pc') (hn : 11 < K.2.2.1) (hw : pmNW o10 = true) (kk : Ev l K G R n u w pc' (o0 :: o1 :: o2 :: o3 :: o4 :: o5 :: o6 :: o7 :: o8 :: o9 :: o10 :: some (.ref x) :: r) st M) : Ev l K G R n u w pc (o0 :: o1 :: o2 :: o3 :: o4 :: o5 :: o6 :: o7 :: o8 :: o9 :: o10 :: o11 :: r) (.ref x :: st) M :=
  e_astore (i := 11) hd hp hn (fun k o e h => by cases (show k = 10 by omega); cases h; exact hw) rfl kk

theorem e_fstore_n {i : Nat} {x : UInt32} {lo' : List (Option Value)} {k : Fin 4} (hi : (k : Nat) = i) (hd : decode K.2.1 pc = .ok (.fstore_n k, 1)) (hp : pc + 1 = pc') (hn : i < K.2.2.1) (hw : ∀ k o, k + 1 = i → lo[k]? = some o → pmNW o = true) (he : lo.set i (some (.float x)) = lo') (kk : Ev l K G R n u w pc' lo' st M) : Ev l K G R n u w pc lo (.float x :: st) M := by
  subst hp
  subst he
  exact fun p e s m args below meth c D cy L A H locs ls X hl hP hS => lv_fstore_n X.1 X.2.1 hd hi hl hn rfl (fun ls' hl' => kk p e s m args below meth c D cy L A H locs ls' X (pm_store (v := .float x) hl' hw) hP hS)

theorem e_fstore {i : Nat} {x : UInt32} {lo' : List (Option Value)} (hd : decode K.2.1 pc = .ok (.fstore i, 2)) (hp : pc + 2 = pc') (hn : i < K.2.2.1) (hw : ∀ k o, k + 1 = i → lo[k]? = some o → pmNW o = true) (he : lo.set i (some (.float x)) = lo') (kk : Ev l K G R n u w pc' lo' st M) : Ev l K G R n u w pc lo (.float x :: st) M := by
  subst hp
  subst he
  exact fun p e s m args below meth c D cy L A H locs ls X hl hP hS => lv_fstore X.1 X.2.1 hd hl hn rfl (fun ls' hl' => kk p e s m args below meth c D cy L A H locs ls' X (pm_store (v := .float x) hl' hw) hP hS)

theorem e_fstore_3 {o0 o1 o2 o3 : Option Value} {r : List (Option Value)} {x : UInt32} (hd : decode K.2.1 pc = .ok (.fstore_n 3, 1)) (hp : pc + 1 = pc') (hn : 3 < K.2.2.1) (hw : pmNW o2 = true) (kk : Ev l K G R n u w pc' (o0 :: o1 :: o2 :: some (.float x) :: r) st M) : Ev l K G R n u w pc (o0 :: o1 :: o2 :: o3 :: r) (.float x :: st) M :=
  e_fstore_n (k := 3) (i := 3) rfl hd hp hn (fun k o e h => by cases (show k = 2 by omega); cases h; exact hw) rfl kk

theorem e_iinc_0 {r : List (Option Value)} {x v : Int32} {z : Int} (hd : decode K.2.1 pc = .ok (.iinc 0 z, 3)) (hp : pc + 3 = pc') (hn : 0 < K.2.2.1) (hv : x + Int32.ofInt z = v) (kk : Ev l K G R n u w pc' (some (.int v) :: r) st M) : Ev l K G R n u w pc (some (.int x) :: r) st M := by
  subst hp
  refine fun p e s m args below meth c D cy L A H locs ls X hl hP hS => ?_
  obtain ⟨j, hj⟩ := List.getElem?_of_mem ((pmPr_mem L (some (.int x) :: r) 0 (0, .int x)).mpr ⟨0, .int x, rfl, rfl⟩)
  exact lv_iinc X.1 X.2.1 hd hl hj hv hn rfl (fun ls' hl' => kk p e s m args below meth c D cy L A H locs ls' X (pm_store (i := 0) (lo := (some (.int x) :: r)) (v := .int v) hl' (fun k o e _ => absurd e (Nat.succ_ne_zero k))) hP hS)

theorem e_iinc_1 {o0 : Option Value} {r : List (Option Value)} {x v : Int32} {z : Int} (hd : decode K.2.1 pc = .ok (.iinc 1 z, 3)) (hp : pc + 3 = pc') (hn : 1 < K.2.2.1) (hw : pmNW o0 = true) (hv : x + Int32.ofInt z = v) (kk : Ev l K G R n u w pc' (o0 :: some (.int v) :: r) st M) : Ev l K G R n u w pc (o0 :: some (.int x) :: r) st M := by
  subst hp
  refine fun p e s m args below meth c D cy L A H locs ls X hl hP hS => ?_
  obtain ⟨j, hj⟩ := List.getElem?_of_mem ((pmPr_mem L (o0 :: some (.int x) :: r) 0 (1, .int x)).mpr ⟨1, .int x, rfl, rfl⟩)
  exact lv_iinc X.1 X.2.1 hd hl hj hv hn rfl (fun ls' hl' => kk p e s m args below meth c D cy L A H locs ls' X (pm_store (i := 1) (lo := (o0 :: some (.int x) :: r)) (v := .int v) hl' (fun k o e h => by cases (show k = 0 by omega); cases h; exact hw)) hP hS)

theorem e_iinc_2 {o0 o1 : Option Value} {r : List (Option Value)} {x v : Int32} {z : Int} (hd : decode K.2.1 pc = .ok (.iinc 2 z, 3)) (hp : pc + 3 = pc') (hn : 2 < K.2.2.1) (hw : pmNW o1 = true) (hv : x + Int32.ofInt z = v) (kk : Ev l K G R n u w pc' (o0 :: o1 :: some (.int v) :: r) st M) : Ev l K G R n u w pc (o0 :: o1 :: some (.int x) :: r) st M := by
  subst hp
  refine fun p e s m args below meth c D cy L A H locs ls X hl hP hS => ?_
  obtain ⟨j, hj⟩ := List.getElem?_of_mem ((pmPr_mem L (o0 :: o1 :: some (.int x) :: r) 0 (2, .int x)).mpr ⟨2, .int x, rfl, rfl⟩)
  exact lv_iinc X.1 X.2.1 hd hl hj hv hn rfl (fun ls' hl' => kk p e s m args below meth c D cy L A H locs ls' X (pm_store (i := 2) (lo := (o0 :: o1 :: some (.int x) :: r)) (v := .int v) hl' (fun k o e h => by cases (show k = 1 by omega); cases h; exact hw)) hP hS)

theorem e_iinc_3 {o0 o1 o2 : Option Value} {r : List (Option Value)} {x v : Int32} {z : Int} (hd : decode K.2.1 pc = .ok (.iinc 3 z, 3)) (hp : pc + 3 = pc') (hn : 3 < K.2.2.1) (hw : pmNW o2 = true) (hv : x + Int32.ofInt z = v) (kk : Ev l K G R n u w pc' (o0 :: o1 :: o2 :: some (.int v) :: r) st M) : Ev l K G R n u w pc (o0 :: o1 :: o2 :: some (.int x) :: r) st M := by
  subst hp
  refine fun p e s m args below meth c D cy L A H locs ls X hl hP hS => ?_
  obtain ⟨j, hj⟩ := List.getElem?_of_mem ((pmPr_mem L (o0 :: o1 :: o2 :: some (.int x) :: r) 0 (3, .int x)).mpr ⟨3, .int x, rfl, rfl⟩)
  exact lv_iinc X.1 X.2.1 hd hl hj hv hn rfl (fun ls' hl' => kk p e s m args below meth c D cy L A H locs ls' X (pm_store (i := 3) (lo := (o0 :: o1 :: o2 :: some (.int x) :: r)) (v := .int v) hl' (fun k o e h => by cases (show k = 2 by omega); cases h; exact hw)) hP hS)

theorem e_iinc_4 {o0 o1 o2 o3 : Option Value} {r : List (Option Value)} {x v : Int32} {z : Int} (hd : decode K.2.1 pc = .ok (.iinc 4 z, 3)) (hp : pc + 3 = pc') (hn : 4 < K.2.2.1) (hw : pmNW o3 = true) (hv : x + Int32.ofInt z = v) (kk : Ev l K G R n u w pc' (o0 :: o1 :: o2 :: o3 :: some (.int v) :: r) st M) : Ev l K G R n u w pc (o0 :: o1 :: o2 :: o3 :: some (.int x) :: r) st M := by
  subst hp
  refine fun p e s m args below meth c D cy L A H locs ls X hl hP hS => ?_
  obtain ⟨j, hj⟩ := List.getElem?_of_mem ((pmPr_mem L (o0 :: o1 :: o2 :: o3 :: some (.int x) :: r) 0 (4, .int x)).mpr ⟨4, .int x, rfl, rfl⟩)
  exact lv_iinc X.1 X.2.1 hd hl hj hv hn rfl (fun ls' hl' => kk p e s m args below meth c D cy L A H locs ls' X (pm_store (i := 4) (lo := (o0 :: o1 :: o2 :: o3 :: some (.int x) :: r)) (v := .int v) hl' (fun k o e h => by cases (show k = 3 by omega); cases h; exact hw)) hP hS)

theorem e_iinc_5 {o0 o1 o2 o3 o4 : Option Value} {r : List (Option Value)} {x v : Int32} {z : Int} (hd : decode K.2.1 pc = .ok (.iinc 5 z, 3)) (hp : pc + 3 = pc') (hn : 5 < K.2.2.1) (hw : pmNW o4 = true) (hv : x + Int32.ofInt z = v) (kk : Ev l K G R n u w pc' (o0 :: o1 :: o2 :: o3 :: o4 :: some (.int v) :: r) st M) : Ev l K G R n u w pc (o0 :: o1 :: o2 :: o3 :: o4 :: some (.int x) :: r) st M := by
  subst hp
  refine fun p e s m args below meth c D cy L A H locs ls X hl hP hS => ?_
  obtain ⟨j, hj⟩ := List.getElem?_of_mem ((pmPr_mem L (o0 :: o1 :: o2 :: o3 :: o4 :: some (.int x) :: r) 0 (5, .int x)).mpr ⟨5, .int x, rfl, rfl⟩)
  exact lv_iinc X.1 X.2.1 hd hl hj hv hn rfl (fun ls' hl' => kk p e s m args below meth c D cy L A H locs ls' X (pm_store (i := 5) (lo := (o0 :: o1 :: o2 :: o3 :: o4 :: some (.int x) :: r)) (v := .int v) hl' (fun k o e h => by cases (show k = 4 by omega); cases h; exact hw)) hP hS)

theorem e_iinc_6 {o0 o1 o2 o3 o4 o5 : Option Value} {r : List (Option Value)} {x v : Int32} {z : Int} (hd : decode K.2.1 pc = .ok (.iinc 6 z, 3)) (hp : pc + 3 = pc') (hn : 6 < K.2.2.1) (hw : pmNW o5 = true) (hv : x + Int32.ofInt z = v) (kk : Ev l K G R n u w pc' (o0 :: o1 :: o2 :: o3 :: o4 :: o5 :: some (.int v) :: r) st M) : Ev l K G R n u w pc (o0 :: o1 :: o2 :: o3 :: o4 :: o5 :: some (.int x) :: r) st M := by
  subst hp
  refine fun p e s m args below meth c D cy L A H locs ls X hl hP hS => ?_
  obtain ⟨j, hj⟩ := List.getElem?_of_mem ((pmPr_mem L (o0 :: o1 :: o2 :: o3 :: o4 :: o5 :: some (.int x) :: r) 0 (6, .int x)).mpr ⟨6, .int x, rfl, rfl⟩)
  exact lv_iinc X.1 X.2.1 hd hl hj hv hn rfl (fun ls' hl' => kk p e s m args below meth c D cy L A H locs ls' X (pm_store (i := 6) (lo := (o0 :: o1 :: o2 :: o3 :: o4 :: o5 :: some (.int x) :: r)) (v := .int v) hl' (fun k o e h => by cases (show k = 5 by omega); cases h; exact hw)) hP hS)

theorem e_iinc_7 {o0 o1 o2 o3 o4 o5 o6 : Option Value} {r : List (Option Value)} {x v : Int32} {z : Int} (hd : decode K.2.1 pc = .ok (.iinc 7 z, 3)) (hp : pc + 3 = pc') (hn : 7 < K.2.2.1) (hw : pmNW o6 = true) (hv : x + Int32.ofInt z = v) (kk : Ev l K G R n u w pc' (o0 :: o1 :: o2 :: o3 :: o4 :: o5 :: o6 :: some (.int v) :: r) st M) : Ev l K G R n u w pc (o0 :: o1 :: o2 :: o3 :: o4 :: o5 :: o6 :: some (.int x) :: r) st M := by
  subst hp
  refine fun p e s m args below meth c D cy L A H locs ls X hl hP hS => ?_
  obtain ⟨j, hj⟩ := List.getElem?_of_mem ((pmPr_mem L (o0 :: o1 :: o2 :: o3 :: o4 :: o5 :: o6 :: some (.int x) :: r) 0 (7, .int x)).mpr ⟨7, .int x, rfl, rfl⟩)
  exact lv_iinc X.1 X.2.1 hd hl hj hv hn rfl (fun ls' hl' => kk p e s m args below meth c D cy L A H locs ls' X (pm_store (i := 7) (lo := (o0 :: o1 :: o2 :: o3 :: o4 :: o5 :: o6 :: some (.int x) :: r)) (v := .int v) hl' (fun k o e h => by cases (show k = 6 by omega); cases h; exact hw)) hP hS)

theorem e_iinc_8 {o0 o1 o2 o3 o4 o5 o6 o7 : Option Value} {r : List (Option Value)} {x v : Int32} {z : Int} (hd : decode K.2.1 pc = .ok (.iinc 8 z, 3)) (hp : pc + 3 = pc') (hn : 8 < K.2.2.1) (hw : pmNW o7 = true) (hv : x + Int32.ofInt z = v) (kk : Ev l K G R n u w pc' (o0 :: o1 :: o2 :: o3 :: o4 :: o5 :: o6 :: o7 :: some (.int v) :: r) st M) : Ev l K G R n u w pc (o0 :: o1 :: o2 :: o3 :: o4 :: o5 :: o6 :: o7 :: some (.int x) :: r) st M := by
  subst hp
  refine fun p e s m args below meth c D cy L A H locs ls X hl hP hS => ?_
  obtain ⟨j, hj⟩ := List.getElem?_of_mem ((pmPr_mem L (o0 :: o1 :: o2 :: o3 :: o4 :: o5 :: o6 :: o7 :: some (.int x) :: r) 0 (8, .int x)).mpr ⟨8, .int x, rfl, rfl⟩)
  exact lv_iinc X.1 X.2.1 hd hl hj hv hn rfl (fun ls' hl' => kk p e s m args below meth c D cy L A H locs ls' X (pm_store (i := 8) (lo := (o0 :: o1 :: o2 :: o3 :: o4 :: o5 :: o6 :: o7 :: some (.int x) :: r)) (v := .int v) hl' (fun k o e h => by cases (show k = 7 by omega); cases h; exact hw)) hP hS)

theorem e_iinc_9 {o0 o1 o2 o3 o4 o5 o6 o7 o8 : Option Value} {r : List (Option Value)} {x v : Int32} {z : Int} (hd : decode K.2.1 pc = .ok (.iinc 9 z, 3)) (hp : pc + 3 = pc') (hn : 9 < K.2.2.1) (hw : pmNW o8 = true) (hv : x + Int32.ofInt z = v) (kk : Ev l K G R n u w pc' (o0 :: o1 :: o2 :: o3 :: o4 :: o5 :: o6 :: o7 :: o8 :: some (.int v) :: r) st M) : Ev l K G R n u w pc (o0 :: o1 :: o2 :: o3 :: o4 :: o5 :: o6 :: o7 :: o8 :: some (.int x) :: r) st M := by
  subst hp
  refine fun p e s m args below meth c D cy L A H locs ls X hl hP hS => ?_
  obtain ⟨j, hj⟩ := List.getElem?_of_mem ((pmPr_mem L (o0 :: o1 :: o2 :: o3 :: o4 :: o5 :: o6 :: o7 :: o8 :: some (.int x) :: r) 0 (9, .int x)).mpr ⟨9, .int x, rfl, rfl⟩)
  exact lv_iinc X.1 X.2.1 hd hl hj hv hn rfl (fun ls' hl' => kk p e s m args below meth c D cy L A H locs ls' X (pm_store (i := 9) (lo := (o0 :: o1 :: o2 :: o3 :: o4 :: o5 :: o6 :: o7 :: o8 :: some (.int x) :: r)) (v := .int v) hl' (fun k o e h => by cases (show k = 8 by omega); cases h; exact hw)) hP hS)

theorem e_iinc_10 {o0 o1 o2 o3 o4 o5 o6 o7 o8 o9 : Option Value} {r : List (Option Value)} {x v : Int32} {z : Int} (hd : decode K.2.1 pc = .ok (.iinc 10 z, 3)) (hp : pc + 3 = pc') (hn : 10 < K.2.2.1) (hw : pmNW o9 = true) (hv : x + Int32.ofInt z = v) (kk : Ev l K G R n u w pc' (o0 :: o1 :: o2 :: o3 :: o4 :: o5 :: o6 :: o7 :: o8 :: o9 :: some (.int v) :: r) st M) : Ev l K G R n u w pc (o0 :: o1 :: o2 :: o3 :: o4 :: o5 :: o6 :: o7 :: o8 :: o9 :: some (.int x) :: r) st M := by
  subst hp
  refine fun p e s m args below meth c D cy L A H locs ls X hl hP hS => ?_
  obtain ⟨j, hj⟩ := List.getElem?_of_mem ((pmPr_mem L (o0 :: o1 :: o2 :: o3 :: o4 :: o5 :: o6 :: o7 :: o8 :: o9 :: some (.int x) :: r) 0 (10, .int x)).mpr ⟨10, .int x, rfl, rfl⟩)
  exact lv_iinc X.1 X.2.1 hd hl hj hv hn rfl (fun ls' hl' => kk p e s m args below meth c D cy L A H locs ls' X (pm_store (i := 10) (lo := (o0 :: o1 :: o2 :: o3 :: o4 :: o5 :: o6 :: o7 :: o8 :: o9 :: some (.int x) :: r)) (v := .int v) hl' (fun k o e h => by cases (show k = 9 by omega); cases h; exact hw)) hP hS)

theorem e_iinc_11 {o0 o1 o2 o3 o4 o5 o6 o7 o8 o9 o10 : Option Value} {r : List (Option Value)} {x v : Int32} {z : Int} (hd : decode K.2.1 pc = .ok (.iinc 11 z, 3)) (hp : pc + 3 = pc') (hn : 11 < K.2.2.1) (hw : pmNW o10 = true) (hv : x + Int32.ofInt z = v) (kk : Ev l K G R n u w pc' (o0 :: o1 :: o2 :: o3 :: o4 :: o5 :: o6 :: o7 :: o8 :: o9 :: o10 :: some (.int v) :: r) st M) : Ev l K G R n u w pc (o0 :: o1 :: o2 :: o3 :: o4 :: o5 :: o6 :: o7 :: o8 :: o9 :: o10 :: some (.int x) :: r) st M := by
  subst hp
  refine fun p e s m args below meth c D cy L A H locs ls X hl hP hS => ?_
  obtain ⟨j, hj⟩ := List.getElem?_of_mem ((pmPr_mem L (o0 :: o1 :: o2 :: o3 :: o4 :: o5 :: o6 :: o7 :: o8 :: o9 :: o10 :: some (.int x) :: r) 0 (11, .int x)).mpr ⟨11, .int x, rfl, rfl⟩)
  exact lv_iinc X.1 X.2.1 hd hl hj hv hn rfl (fun ls' hl' => kk p e s m args below meth c D cy L A H locs ls' X (pm_store (i := 11) (lo := (o0 :: o1 :: o2 :: o3 :: o4 :: o5 :: o6 :: o7 :: o8 :: o9 :: o10 :: some (.int x) :: r)) (v := .int v) hl' (fun k o e h => by cases (show k = 10 by omega); cases h; exact hw)) hP hS)

theorem e_dstore_4 {o0 o1 o2 o3 o4 o5 : Option Value} {r : List (Option Value)} {x : UInt64} (hd : decode K.2.1 pc = .ok (.dstore 4, 2)) (hp : pc + 2 = pc') (hn : 4 + 1 < K.2.2.1) (hw : pmNW o3 = true) (kk : Ev l K G R n u w pc' (o0 :: o1 :: o2 :: o3 :: some (.double x) :: none :: r) st M) : Ev l K G R n u w pc (o0 :: o1 :: o2 :: o3 :: o4 :: o5 :: r) (.double x :: st) M := by
  subst hp
  exact fun p e s m args below meth c D cy L A H locs ls X hl hP hS => lv_dstore X.1 X.2.1 hd hl hn rfl (fun ls' hl' => kk p e s m args below meth c D cy L A H locs ls' X (pm_store2 (i := 4) (lo := (o0 :: o1 :: o2 :: o3 :: o4 :: o5 :: r)) (v := .double x) hl' (fun k o e h => by cases (show k = 3 by omega); cases h; exact hw)) hP hS)

theorem e_dstore_5 {o0 o1 o2 o3 o4 o5 o6 : Option Value} {r : List (Option Value)} {x : UInt64} (hd : decode K.2.1 pc = .ok (.dstore 5, 2)) (hp : pc + 2 = pc') (hn : 5 + 1 < K.2.2.1) (hw : pmNW o4 = true) (kk : Ev l K G R n u w pc' (o0 :: o1 :: o2 :: o3 :: o4 :: some (.double x) :: none :: r) st M) : Ev l K G R n u w pc (o0 :: o1 :: o2 :: o3 :: o4 :: o5 :: o6 :: r) (.double x :: st) M := by
  subst hp
  exact fun p e s m args below meth c D cy L A H locs ls X hl hP hS => lv_dstore X.1 X.2.1 hd hl hn rfl (fun ls' hl' => kk p e s m args below meth c D cy L A H locs ls' X (pm_store2 (i := 5) (lo := (o0 :: o1 :: o2 :: o3 :: o4 :: o5 :: o6 :: r)) (v := .double x) hl' (fun k o e h => by cases (show k = 4 by omega); cases h; exact hw)) hP hS)

theorem e_dstore_6 {o0 o1 o2 o3 o4 o5 o6 o7 : Option Value} {r : List (Option Value)} {x : UInt64} (hd : decode K.2.1 pc = .ok (.dstore 6, 2)) (hp : pc + 2 = pc') (hn : 6 + 1 < K.2.2.1) (hw : pmNW o5 = true) (kk : Ev l K G R n u w pc' (o0 :: o1 :: o2 :: o3 :: o4 :: o5 :: some (.double x) :: none :: r) st M) : Ev l K G R n u w pc (o0 :: o1 :: o2 :: o3 :: o4 :: o5 :: o6 :: o7 :: r) (.double x :: st) M := by
  subst hp
  exact fun p e s m args below meth c D cy L A H locs ls X hl hP hS => lv_dstore X.1 X.2.1 hd hl hn rfl (fun ls' hl' => kk p e s m args below meth c D cy L A H locs ls' X (pm_store2 (i := 6) (lo := (o0 :: o1 :: o2 :: o3 :: o4 :: o5 :: o6 :: o7 :: r)) (v := .double x) hl' (fun k o e h => by cases (show k = 5 by omega); cases h; exact hw)) hP hS)

theorem e_dstore_7 {o0 o1 o2 o3 o4 o5 o6 o7 o8 : Option Value} {r : List (Option Value)} {x : UInt64} (hd : decode K.2.1 pc = .ok (.dstore 7, 2)) (hp : pc + 2 = pc') (hn : 7 + 1 < K.2.2.1) (hw : pmNW o6 = true) (kk : Ev l K G R n u w pc' (o0 :: o1 :: o2 :: o3 :: o4 :: o5 :: o6 :: some (.double x) :: none :: r) st M) : Ev l K G R n u w pc (o0 :: o1 :: o2 :: o3 :: o4 :: o5 :: o6 :: o7 :: o8 :: r) (.double x :: st) M := by
  subst hp
  exact fun p e s m args below meth c D cy L A H locs ls X hl hP hS => lv_dstore X.1 X.2.1 hd hl hn rfl (fun ls' hl' => kk p e s m args below meth c D cy L A H locs ls' X (pm_store2 (i := 7) (lo := (o0 :: o1 :: o2 :: o3 :: o4 :: o5 :: o6 :: o7 :: o8 :: r)) (v := .double x) hl' (fun k o e h => by cases (show k = 6 by omega); cases h; exact hw)) hP hS)

theorem e_dstore_8 {o0 o1 o2 o3 o4 o5 o6 o7 o8 o9 : Option Value} {r : List (Option Value)} {x : UInt64} (hd : decode K.2.1 pc = .ok (.dstore 8, 2)) (hp : pc + 2 = pc') (hn : 8 + 1 < K.2.2.1) (hw : pmNW o7 = true) (kk : Ev l K G R n u w pc' (o0 :: o1 :: o2 :: o3 :: o4 :: o5 :: o6 :: o7 :: some (.double x) :: none :: r) st M) : Ev l K G R n u w pc (o0 :: o1 :: o2 :: o3 :: o4 :: o5 :: o6 :: o7 :: o8 :: o9 :: r) (.double x :: st) M := by
  subst hp
  exact fun p e s m args below meth c D cy L A H locs ls X hl hP hS => lv_dstore X.1 X.2.1 hd hl hn rfl (fun ls' hl' => kk p e s m args below meth c D cy L A H locs ls' X (pm_store2 (i := 8) (lo := (o0 :: o1 :: o2 :: o3 :: o4 :: o5 :: o6 :: o7 :: o8 :: o9 :: r)) (v := .double x) hl' (fun k o e h => by cases (show k = 7 by omega); cases h; exact hw)) hP hS)

theorem e_dstore_9 {o0 o1 o2 o3 o4 o5 o6 o7 o8 o9 o10 : Option Value} {r : List (Option Value)} {x : UInt64} (hd : decode K.2.1 pc = .ok (.dstore 9, 2)) (hp : pc + 2 = pc') (hn : 9 + 1 < K.2.2.1) (hw : pmNW o8 = true) (kk : Ev l K G R n u w pc' (o0 :: o1 :: o2 :: o3 :: o4 :: o5 :: o6 :: o7 :: o8 :: some (.double x) :: none :: r) st M) : Ev l K G R n u w pc (o0 :: o1 :: o2 :: o3 :: o4 :: o5 :: o6 :: o7 :: o8 :: o9 :: o10 :: r) (.double x :: st) M := by
  subst hp
  exact fun p e s m args below meth c D cy L A H locs ls X hl hP hS => lv_dstore X.1 X.2.1 hd hl hn rfl (fun ls' hl' => kk p e s m args below meth c D cy L A H locs ls' X (pm_store2 (i := 9) (lo := (o0 :: o1 :: o2 :: o3 :: o4 :: o5 :: o6 :: o7 :: o8 :: o9 :: o10 :: r)) (v := .double x) hl' (fun k o e h => by cases (show k = 8 by omega); cases h; exact hw)) hP hS)

theorem e_dstore_10 {o0 o1 o2 o3 o4 o5 o6 o7 o8 o9 o10 o11 : Option Value} {r : List (Option Value)} {x : UInt64} (hd : decode K.2.1 pc = .ok (.dstore 10, 2)) (hp : pc + 2 = pc') (hn : 10 + 1 < K.2.2.1) (hw : pmNW o9 = true) (kk : Ev l K G R n u w pc' (o0 :: o1 :: o2 :: o3 :: o4 :: o5 :: o6 :: o7 :: o8 :: o9 :: some (.double x) :: none :: r) st M) : Ev l K G R n u w pc (o0 :: o1 :: o2 :: o3 :: o4 :: o5 :: o6 :: o7 :: o8 :: o9 :: o10 :: o11 :: r) (.double x :: st) M := by
  subst hp
  exact fun p e s m args below meth c D cy L A H locs ls X hl hP hS => lv_dstore X.1 X.2.1 hd hl hn rfl (fun ls' hl' => kk p e s m args below meth c D cy L A H locs ls' X (pm_store2 (i := 10) (lo := (o0 :: o1 :: o2 :: o3 :: o4 :: o5 :: o6 :: o7 :: o8 :: o9 :: o10 :: o11 :: r)) (v := .double x) hl' (fun k o e h => by cases (show k = 9 by omega); cases h; exact hw)) hP hS)

theorem e_dstore_11 {o0 o1 o2 o3 o4 o5 o6 o7 o8 o9 o10 o11 o12 : Option Value} {r : List (Option Value)} {x : UInt64} (hd : decode K.2.1 pc = .ok (.dstore 11, 2)) (hp : pc + 2 = pc') (hn : 11 + 1 < K.2.2.1) (hw : pmNW o10 = true) (kk : Ev l K G R n u w pc' (o0 :: o1 :: o2 :: o3 :: o4 :: o5 :: o6 :: o7 :: o8 :: o9 :: o10 :: some (.double x) :: none :: r) st M) : Ev l K G R n u w pc (o0 :: o1 :: o2 :: o3 :: o4 :: o5 :: o6 :: o7 :: o8 :: o9 :: o10 :: o11 :: o12 :: r) (.double x :: st) M := by
  subst hp
  exact fun p e s m args below meth c D cy L A H locs ls X hl hP hS => lv_dstore X.1 X.2.1 hd hl hn rfl (fun ls' hl' => kk p e s m args below meth c D cy L A H locs ls' X (pm_store2 (i := 11) (lo := (o0 :: o1 :: o2 :: o3 :: o4 :: o5 :: o6 :: o7 :: o8 :: o9 :: o10 :: o11 :: o12 :: r)) (v := .double x) hl' (fun k o e h => by cases (show k = 10 by omega); cases h; exact hw)) hP hS)

theorem e_iadd {x y : Int32} (hd : decode K.2.1 pc = .ok (.iadd, 1)) (hp : pc + 1 = pc') (kk : Ev l K G R n u w pc' lo (.int (x + y) :: st) M) : Ev l K G R n u w pc lo (.int y :: .int x :: st) M := by
  subst hp
  exact fun p e s m args below meth c D cy L A H locs ls X hl hP hS => lv_iadd X.1 X.2.1 hd (kk p e s m args below meth c D cy L A H locs ls X hl hP hS)

theorem e_isub {x y : Int32} (hd : decode K.2.1 pc = .ok (.isub, 1)) (hp : pc + 1 = pc') (kk : Ev l K G R n u w pc' lo (.int (x - y) :: st) M) : Ev l K G R n u w pc lo (.int y :: .int x :: st) M := by
  subst hp
  exact fun p e s m args below meth c D cy L A H locs ls X hl hP hS => lv_isub X.1 X.2.1 hd (kk p e s m args below meth c D cy L A H locs ls X hl hP hS)

theorem e_imul {x y : Int32} (hd : decode K.2.1 pc = .ok (.imul, 1)) (hp : pc + 1 = pc') (kk : Ev l K G R n u w pc' lo (.int (x * y) :: st) M) : Ev l K G R n u w pc lo (.int y :: .int x :: st) M := by
  subst hp
  exact fun p e s m args below meth c D cy L A H locs ls X hl hP hS => lv_imul X.1 X.2.1 hd (kk p e s m args below meth c D cy L A H locs ls X hl hP hS)

theorem e_iand {x y : Int32} (hd : decode K.2.1 pc = .ok (.iand, 1)) (hp : pc + 1 = pc') (kk : Ev l K G R n u w pc' lo (.int (x &&& y) :: st) M) : Ev l K G R n u w pc lo (.int y :: .int x :: st) M := by
  subst hp
  exact fun p e s m args below meth c D cy L A H locs ls X hl hP hS => lv_iand X.1 X.2.1 hd (kk p e s m args below meth c D cy L A H locs ls X hl hP hS)

theorem e_ior {x y : Int32} (hd : decode K.2.1 pc = .ok (.ior, 1)) (hp : pc + 1 = pc') (kk : Ev l K G R n u w pc' lo (.int (x ||| y) :: st) M) : Ev l K G R n u w pc lo (.int y :: .int x :: st) M := by
  subst hp
  exact fun p e s m args below meth c D cy L A H locs ls X hl hP hS => lv_ior X.1 X.2.1 hd (kk p e s m args below meth c D cy L A H locs ls X hl hP hS)

theorem e_ixor {x y : Int32} (hd : decode K.2.1 pc = .ok (.ixor, 1)) (hp : pc + 1 = pc') (kk : Ev l K G R n u w pc' lo (.int (x ^^^ y) :: st) M) : Ev l K G R n u w pc lo (.int y :: .int x :: st) M := by
  subst hp
  exact fun p e s m args below meth c D cy L A H locs ls X hl hP hS => lv_ixor X.1 X.2.1 hd (kk p e s m args below meth c D cy L A H locs ls X hl hP hS)

theorem e_ishl {x y : Int32} (hd : decode K.2.1 pc = .ok (.ishl, 1)) (hp : pc + 1 = pc') (kk : Ev l K G R n u w pc' lo (.int (x <<< (y &&& 31)) :: st) M) : Ev l K G R n u w pc lo (.int y :: .int x :: st) M := by
  subst hp
  exact fun p e s m args below meth c D cy L A H locs ls X hl hP hS => lv_ishl X.1 X.2.1 hd (kk p e s m args below meth c D cy L A H locs ls X hl hP hS)

theorem e_ishr {x y : Int32} (hd : decode K.2.1 pc = .ok (.ishr, 1)) (hp : pc + 1 = pc') (kk : Ev l K G R n u w pc' lo (.int (x >>> (y &&& 31)) :: st) M) : Ev l K G R n u w pc lo (.int y :: .int x :: st) M := by
  subst hp
  exact fun p e s m args below meth c D cy L A H locs ls X hl hP hS => lv_ishr X.1 X.2.1 hd (kk p e s m args below meth c D cy L A H locs ls X hl hP hS)

def pmUs (x y : Int32) : Int32 := (x.toUInt32 >>> (y.toUInt32 &&& Int32.toUInt32 31)).toInt32
theorem e_iushr {x y : Int32} (hd : decode K.2.1 pc = .ok (.iushr, 1)) (hp : pc + 1 = pc') (kk : Ev l K G R n u w pc' lo (.int (pmUs x y) :: st) M) : Ev l K G R n u w pc lo (.int y :: .int x :: st) M := by
  subst hp
  exact fun p e s m args below meth c D cy L A H locs ls X hl hP hS => lv_iushr X.1 X.2.1 hd rfl (kk p e s m args below meth c D cy L A H locs ls X hl hP hS)
theorem e_idiv {x y : Int32} (hd : decode K.2.1 pc = .ok (.idiv, 1)) (hp : pc + 1 = pc') (hne : ¬ y = 0) (kk : Ev l K G R n u w pc' lo (.int (x / y) :: st) M) : Ev l K G R n u w pc lo (.int y :: .int x :: st) M := by
  subst hp
  exact fun p e s m args below meth c D cy L A H locs ls X hl hP hS => lv_idiv X.1 X.2.1 hd hne (kk p e s m args below meth c D cy L A H locs ls X hl hP hS)
theorem e_irem {x y : Int32} (hd : decode K.2.1 pc = .ok (.irem, 1)) (hp : pc + 1 = pc') (hne : ¬ y = 0) (kk : Ev l K G R n u w pc' lo (.int (x - x / y * y) :: st) M) : Ev l K G R n u w pc lo (.int y :: .int x :: st) M := by
  subst hp
  exact fun p e s m args below meth c D cy L A H locs ls X hl hP hS => lv_irem X.1 X.2.1 hd hne (kk p e s m args below meth c D cy L A H locs ls X hl hP hS)
theorem e_ineg {x : Int32} (hd : decode K.2.1 pc = .ok (.ineg, 1)) (hp : pc + 1 = pc') (kk : Ev l K G R n u w pc' lo (.int (-x) :: st) M) : Ev l K G R n u w pc lo (.int x :: st) M := by
  subst hp
  exact fun p e s m args below meth c D cy L A H locs ls X hl hP hS => lv_ineg X.1 X.2.1 hd (kk p e s m args below meth c D cy L A H locs ls X hl hP hS)
theorem e_i2l {x : Int32} (hd : decode K.2.1 pc = .ok (.i2l, 1)) (hp : pc + 1 = pc') (kk : Ev l K G R n u w pc' lo (.long x.toInt64 :: st) M) : Ev l K G R n u w pc lo (.int x :: st) M := by
  subst hp
  exact fun p e s m args below meth c D cy L A H locs ls X hl hP hS => lv_i2l X.1 X.2.1 hd rfl (kk p e s m args below meth c D cy L A H locs ls X hl hP hS)
theorem e_i2c {x : Int32} (hd : decode K.2.1 pc = .ok (.i2c, 1)) (hp : pc + 1 = pc') (kk : Ev l K G R n u w pc' lo (.int (x.toUInt32 % 65536).toInt32 :: st) M) : Ev l K G R n u w pc lo (.int x :: st) M := by
  subst hp
  exact fun p e s m args below meth c D cy L A H locs ls X hl hP hS => lv_i2c X.1 X.2.1 hd rfl (kk p e s m args below meth c D cy L A H locs ls X hl hP hS)
theorem e_i2f {x : Int32} (hd : decode K.2.1 pc = .ok (.i2f, 1)) (hp : pc + 1 = pc') (kk : Ev l K G R n u w pc' lo (.float (FP.i2f x) :: st) M) : Ev l K G R n u w pc lo (.int x :: st) M := by
  subst hp
  exact fun p e s m args below meth c D cy L A H locs ls X hl hP hS => lv_i2f X.1 X.2.1 hd (kk p e s m args below meth c D cy L A H locs ls X hl hP hS)
theorem e_i2d {x : Int32} (hd : decode K.2.1 pc = .ok (.i2d, 1)) (hp : pc + 1 = pc') (kk : Ev l K G R n u w pc' lo (.double (FP.i2d x) :: st) M) : Ev l K G R n u w pc lo (.int x :: st) M := by
  subst hp
  exact fun p e s m args below meth c D cy L A H locs ls X hl hP hS => lv_i2d X.1 X.2.1 hd (kk p e s m args below meth c D cy L A H locs ls X hl hP hS)
theorem e_f2d {x : UInt32} (hd : decode K.2.1 pc = .ok (.f2d, 1)) (hp : pc + 1 = pc') (hne : vf_n64 (FP.f2d x)) (kk : Ev l K G R n u w pc' lo (.double (FP.f2d x) :: st) M) : Ev l K G R n u w pc lo (.float x :: st) M := by
  subst hp
  exact fun p e s m args below meth c D cy L A H locs ls X hl hP hS => lv_f2d X.1 X.2.1 hd hne (kk p e s m args below meth c D cy L A H locs ls X hl hP hS)
theorem e_fdiv {x y : UInt32} (hd : decode K.2.1 pc = .ok (.fdiv, 1)) (hp : pc + 1 = pc') (hne : vf_n32 (FP.fdiv x y)) (kk : Ev l K G R n u w pc' lo (.float (FP.fdiv x y) :: st) M) : Ev l K G R n u w pc lo (.float y :: .float x :: st) M := by
  subst hp
  exact fun p e s m args below meth c D cy L A H locs ls X hl hP hS => lv_fdiv X.1 X.2.1 hd hne (kk p e s m args below meth c D cy L A H locs ls X hl hP hS)
theorem e_ddiv {x y : UInt64} (hd : decode K.2.1 pc = .ok (.ddiv, 1)) (hp : pc + 1 = pc') (hne : vf_n64 (FP.ddiv x y)) (kk : Ev l K G R n u w pc' lo (.double (FP.ddiv x y) :: st) M) : Ev l K G R n u w pc lo (.double y :: .double x :: st) M := by
  subst hp
  exact fun p e s m args below meth c D cy L A H locs ls X hl hP hS => lv_ddiv X.1 X.2.1 hd hne (kk p e s m args below meth c D cy L A H locs ls X hl hP hS)
theorem e_fcmp {x y : UInt32} {op : CmpOp} (hd : decode K.2.1 pc = .ok (.fcmp op, 1)) (hp : pc + 1 = pc') (kk : Ev l K G R n u w pc' lo (.int (Op.cmpValue (FP.fcmp x y) op) :: st) M) : Ev l K G R n u w pc lo (.float y :: .float x :: st) M := by
  subst hp
  exact fun p e s m args below meth c D cy L A H locs ls X hl hP hS => lv_fcmp X.1 X.2.1 hd (kk p e s m args below meth c D cy L A H locs ls X hl hP hS)
theorem e_dcmp {x y : UInt64} {op : CmpOp} (hd : decode K.2.1 pc = .ok (.dcmp op, 1)) (hp : pc + 1 = pc') (kk : Ev l K G R n u w pc' lo (.int (Op.cmpValue (FP.dcmp x y) op) :: st) M) : Ev l K G R n u w pc lo (.double y :: .double x :: st) M := by
  subst hp
  exact fun p e s m args below meth c D cy L A H locs ls X hl hP hS => lv_dcmp X.1 X.2.1 hd (kk p e s m args below meth c D cy L A H locs ls X hl hP hS)
theorem e_lcmp {x y : Int64} (hd : decode K.2.1 pc = .ok (.lcmp, 1)) (hp : pc + 1 = pc') (kk : Ev l K G R n u w pc' lo (.int (lg_cmp x y) :: st) M) : Ev l K G R n u w pc lo (.long y :: .long x :: st) M := by
  subst hp
  exact fun p e s m args below meth c D cy L A H locs ls X hl hP hS => W.lcmp X.1 X.2.1 hd (kk p e s m args below meth c D cy L A H locs ls X hl hP hS)
theorem e_dup {v : Value} (hd : decode K.2.1 pc = .ok (.dup, 1)) (hp : pc + 1 = pc') (hc : v.category = 1) (kk : Ev l K G R n u w pc' lo (v :: v :: st) M) : Ev l K G R n u w pc lo (v :: st) M := by
  subst hp
  exact fun p e s m args below meth c D cy L A H locs ls X hl hP hS => lv_dup X.1 X.2.1 hd ((pmV_cat L v).trans hc) (kk p e s m args below meth c D cy L A H locs ls X hl hP hS)
theorem e_dup2 {v v2 : Value} (hd : decode K.2.1 pc = .ok (.dup2, 1)) (hp : pc + 1 = pc') (hc : v.category = 1) (hc2 : v2.category = 1) (kk : Ev l K G R n u w pc' lo (v :: v2 :: v :: v2 :: st) M) : Ev l K G R n u w pc lo (v :: v2 :: st) M := by
  subst hp
  exact fun p e s m args below meth c D cy L A H locs ls X hl hP hS => lv_dup2_11 X.1 X.2.1 hd ((pmV_cat L v).trans hc) ((pmV_cat L v2).trans hc2) (kk p e s m args below meth c D cy L A H locs ls X hl hP hS)
theorem e_pop {v : Value} (hd : decode K.2.1 pc = .ok (.pop, 1)) (hp : pc + 1 = pc') (hc : v.category = 1) (kk : Ev l K G R n u w pc' lo st M) : Ev l K G R n u w pc lo (v :: st) M := by
  subst hp
  exact fun p e s m args below meth c D cy L A H locs ls X hl hP hS => lv_pop X.1 X.2.1 hd ((pmV_cat L v).trans hc) (kk p e s m args below meth c D cy L A H locs ls X hl hP hS)
theorem e_goto {off : Int} {tgt : Nat} (hd : decode K.2.1 pc = .ok (.goto off, 3)) (ht : (pc : Int) + off = (tgt : Int)) (kk : Ev l K G R n u w tgt lo st M) : Ev l K G R n u w pc lo st M :=
  fun p e s m args below meth c D cy L A H locs ls X hl hP hS => lv_goto X.1 X.2.1 hd ht (kk p e s m args below meth c D cy L A H locs ls X hl hP hS)
/-- a name for what lies on the stack -/
theorem e_topi {x : Int32} (y : Int32) (h : x = y) (kk : Ev l K G R n u w pc lo (.int y :: st) M) : Ev l K G R n u w pc lo (.int x :: st) M := h ▸ kk
theorem e_mem {M1 : pmM} (h : M = M1) (kk : Ev l K G R n u w pc lo st M1) : Ev l K G R n u w pc lo st M := h ▸ kk
theorem e_loc {lo1 : List (Option Value)} (h : lo = lo1) (kk : Ev l K G R n u w pc lo1 st M) : Ev l K G R n u w pc lo st M := h ▸ kk
theorem e_use {u1 w1 : Nat} (h1 : u ≤ u1) (h2 : w ≤ w1) (kk : Ev l K G R n u1 w1 pc lo st M) : Ev l K G R n u w pc lo st M :=
  fun p e s m args below meth c D cy L A H locs ls X hl hP hS => W.widen h1 h2 (kk p e s m args below meth c D cy L A H locs ls X hl hP hS)

theorem e_if_eq {x : Int32} {off : Int} {tgt : Nat} (hd : decode K.2.1 pc = .ok (.ifCond .eq off, 3)) (ht : (pc : Int) + off = (tgt : Int)) (hp : pc + 3 = pc') (kt : x = 0 → Ev l K G R n u w tgt lo st M) (kf : ¬ x = 0 → Ev l K G R n u w pc' lo st M) : Ev l K G R n u w pc lo (.int x :: st) M := by
  subst hp
  exact fun p e s m args below meth c D cy L A H locs ls X hl hP hS => lv_if_eq X.1 X.2.1 hd ht (fun q => kt q p e s m args below meth c D cy L A H locs ls X hl hP hS) (fun q => kf q p e s m args below meth c D cy L A H locs ls X hl hP hS)

theorem e_if_ne {x : Int32} {off : Int} {tgt : Nat} (hd : decode K.2.1 pc = .ok (.ifCond .ne off, 3)) (ht : (pc : Int) + off = (tgt : Int)) (hp : pc + 3 = pc') (kt : ¬ x = 0 → Ev l K G R n u w tgt lo st M) (kf : x = 0 → Ev l K G R n u w pc' lo st M) : Ev l K G R n u w pc lo (.int x :: st) M := by
  subst hp
  exact fun p e s m args below meth c D cy L A H locs ls X hl hP hS => lv_if_ne X.1 X.2.1 hd ht (fun q => kt q p e s m args below meth c D cy L A H locs ls X hl hP hS) (fun q => kf q p e s m args below meth c D cy L A H locs ls X hl hP hS)

theorem e_if_lt {x : Int32} {off : Int} {tgt : Nat} (hd : decode K.2.1 pc = .ok (.ifCond .lt off, 3)) (ht : (pc : Int) + off = (tgt : Int)) (hp : pc + 3 = pc') (kt : x < 0 → Ev l K G R n u w tgt lo st M) (kf : ¬ x < 0 → Ev l K G R n u w pc' lo st M) : Ev l K G R n u w pc lo (.int x :: st) M := by
  subst hp
  exact fun p e s m args below meth c D cy L A H locs ls X hl hP hS => lv_if_lt X.1 X.2.1 hd ht (fun q => kt q p e s m args below meth c D cy L A H locs ls X hl hP hS) (fun q => kf q p e s m args below meth c D cy L A H locs ls X hl hP hS)

theorem e_if_ge {x : Int32} {off : Int} {tgt : Nat} (hd : decode K.2.1 pc = .ok (.ifCond .ge off, 3)) (ht : (pc : Int) + off = (tgt : Int)) (hp : pc + 3 = pc') (kt : 0 ≤ x → Ev l K G R n u w tgt lo st M) (kf : ¬ 0 ≤ x → Ev l K G R n u w pc' lo st M) : Ev l K G R n u w pc lo (.int x :: st) M := by
  subst hp
  exact fun p e s m args below meth c D cy L A H locs ls X hl hP hS => lv_if_ge X.1 X.2.1 hd ht (fun q => kt q p e s m args below meth c D cy L A H locs ls X hl hP hS) (fun q => kf q p e s m args below meth c D cy L A H locs ls X hl hP hS)

theorem e_if_gt {x : Int32} {off : Int} {tgt : Nat} (hd : decode K.2.1 pc = .ok (.ifCond .gt off, 3)) (ht : (pc : Int) + off = (tgt : Int)) (hp : pc + 3 = pc') (kt : 0 < x → Ev l K G R n u w tgt lo st M) (kf : ¬ 0 < x → Ev l K G R n u w pc' lo st M) : Ev l K G R n u w pc lo (.int x :: st) M := by
  subst hp
  exact fun p e s m args below meth c D cy L A H locs ls X hl hP hS => lv_if_gt X.1 X.2.1 hd ht (fun q => kt q p e s m args below meth c D cy L A H locs ls X hl hP hS) (fun q => kf q p e s m args below meth c D cy L A H locs ls X hl hP hS)

theorem e_if_le {x : Int32} {off : Int} {tgt : Nat} (hd : decode K.2.1 pc = .ok (.ifCond .le off, 3)) (ht : (pc : Int) + off = (tgt : Int)) (hp : pc + 3 = pc') (kt : x ≤ 0 → Ev l K G R n u w tgt lo st M) (kf : ¬ x ≤ 0 → Ev l K G R n u w pc' lo st M) : Ev l K G R n u w pc lo (.int x :: st) M := by
  subst hp
  exact fun p e s m args below meth c D cy L A H locs ls X hl hP hS => lv_if_le X.1 X.2.1 hd ht (fun q => kt q p e s m args below meth c D cy L A H locs ls X hl hP hS) (fun q => kf q p e s m args below meth c D cy L A H locs ls X hl hP hS)

theorem e_ic_eq {x y : Int32} {off : Int} {tgt : Nat} (hd : decode K.2.1 pc = .ok (.if_icmp .eq off, 3)) (ht : (pc : Int) + off = (tgt : Int)) (hp : pc + 3 = pc') (kt : x = y → Ev l K G R n u w tgt lo st M) (kf : ¬ x = y → Ev l K G R n u w pc' lo st M) : Ev l K G R n u w pc lo (.int y :: .int x :: st) M := by
  subst hp
  exact fun p e s m args below meth c D cy L A H locs ls X hl hP hS => lv_icmp_eq X.1 X.2.1 hd ht (fun q => kt q p e s m args below meth c D cy L A H locs ls X hl hP hS) (fun q => kf q p e s m args below meth c D cy L A H locs ls X hl hP hS)

theorem e_ic_ne {x y : Int32} {off : Int} {tgt : Nat} (hd : decode K.2.1 pc = .ok (.if_icmp .ne off, 3)) (ht : (pc : Int) + off = (tgt : Int)) (hp : pc + 3 = pc') (kt : ¬ x = y → Ev l K G R n u w tgt lo st M) (kf : x = y → Ev l K G R n u w pc' lo st M) : Ev l K G R n u w pc lo (.int y :: .int x :: st) M := by
  subst hp
  exact fun p e s m args below meth c D cy L A H locs ls X hl hP hS => lv_icmp_ne X.1 X.2.1 hd ht (fun q => kt q p e s m args below meth c D cy L A H locs ls X hl hP hS) (fun q => kf q p e s m args below meth c D cy L A H locs ls X hl hP hS)

theorem e_ic_lt {x y : Int32} {off : Int} {tgt : Nat} (hd : decode K.2.1 pc = .ok (.if_icmp .lt off, 3)) (ht : (pc : Int) + off = (tgt : Int)) (hp : pc + 3 = pc') (kt : x < y → Ev l K G R n u w tgt lo st M) (kf : ¬ x < y → Ev l K G R n u w pc' lo st M) : Ev l K G R n u w pc lo (.int y :: .int x :: st) M := by
  subst hp
  exact fun p e s m args below meth c D cy L A H locs ls X hl hP hS => lv_icmp_lt X.1 X.2.1 hd ht (fun q => kt q p e s m args below meth c D cy L A H locs ls X hl hP hS) (fun q => kf q p e s m args below meth c D cy L A H locs ls X hl hP hS)

theorem e_ic_ge {x y : Int32} {off : Int} {tgt : Nat} (hd : decode K.2.1 pc = .ok (.if_icmp .ge off, 3)) (ht : (pc : Int) + off = (tgt : Int)) (hp : pc + 3 = pc') (kt : y ≤ x → Ev l K G R n u w tgt lo st M) (kf : ¬ y ≤ x → Ev l K G R n u w pc' lo st M) : Ev l K G R n u w pc lo (.int y :: .int x :: st) M := by
  subst hp
  exact fun p e s m args below meth c D cy L A H locs ls X hl hP hS => lv_icmp_ge X.1 X.2.1 hd ht (fun q => kt q p e s m args below meth c D cy L A H locs ls X hl hP hS) (fun q => kf q p e s m args below meth c D cy L A H locs ls X hl hP hS)

theorem e_ic_gt {x y : Int32} {off : Int} {tgt : Nat} (hd : decode K.2.1 pc = .ok (.if_icmp .gt off, 3)) (ht : (pc : Int) + off = (tgt : Int)) (hp : pc + 3 = pc') (kt : y < x → Ev l K G R n u w tgt lo st M) (kf : ¬ y < x → Ev l K G R n u w pc' lo st M) : Ev l K G R n u w pc lo (.int y :: .int x :: st) M := by
  subst hp
  exact fun p e s m args below meth c D cy L A H locs ls X hl hP hS => lv_icmp_gt X.1 X.2.1 hd ht (fun q => kt q p e s m args below meth c D cy L A H locs ls X hl hP hS) (fun q => kf q p e s m args below meth c D cy L A H locs ls X hl hP hS)

theorem e_ic_le {x y : Int32} {off : Int} {tgt : Nat} (hd : decode K.2.1 pc = .ok (.if_icmp .le off, 3)) (ht : (pc : Int) + off = (tgt : Int)) (hp : pc + 3 = pc') (kt : x ≤ y → Ev l K G R n u w tgt lo st M) (kf : ¬ x ≤ y → Ev l K G R n u w pc' lo st M) : Ev l K G R n u w pc lo (.int y :: .int x :: st) M := by
  subst hp
  exact fun p e s m args below meth c D cy L A H locs ls X hl hP hS => lv_icmp_le X.1 X.2.1 hd ht (fun q => kt q p e s m args below meth c D cy L A H locs ls X hl hP hS) (fun q => kf q p e s m args below meth c D cy L A H locs ls X hl hP hS)

theorem e_getI {a ci k idx N : Nat} {q : Bool} (hd : decode K.2.1 pc = .ok (.getfield idx, 3)) (hp : pc + 3 = pc') (hk : pmLk K.1.cls idx ci k q) (ht : pmTy ci k = true) (hs : psh a = (ci, N)) (hc : ci < 5) (ha : a < n) (kk : Ev l K G R n u w pc' lo (.int (M.1 a k) :: st) M) : Ev l K G R n u w pc lo (.ref a :: st) M := by
  subst hp
  refine fun p e s m args below meth c D cy L A H locs ls X hl hP hS => ?_
  obtain ⟨C, T, N', h1, h2, -, h3⟩ := hk
  obtain ⟨hin, -, -⟩ := pm_cls ci C T N' h1
  have hN : N = N' := by
    have : psh a = (ci, N) := hs
    match ci, h1, hs with
    | 0, h1, hs => cases h1; exact pm_len hs
    | 1, h1, hs => cases h1; exact pm_len hs
    | 2, h1, hs => cases h1; exact pm_len hs
    | 3, h1, hs => cases h1; exact pm_len hs
    | 4, h1, hs => cases h1; exact pm_len hs
    | z + 5, h1, hs => simp at h1
  subst hN
  have he := pmWl_get (cy := cy) (L := L) (M := M) ha
  rw [pmE_obj hs hc] at he
  have hv : ((List.range N).map (pmF L M a ci))[k]? = some (.int (M.1 a k)) := by simp [h2, pmF, ht]
  rcases h3 with h3 | ⟨host, h3⟩
  · exact va_get X.1 X.2.1 X.2.2.2.2.1 hin X.2.2.2.1 X.2.2.2.2.2.2.2.2.2.2.1.1 hP a he h1 k h2 (X.2.2.2.2.1 _ h3) (fun _ h => h) hv hd (kk p e s m args below meth c D cy L A H locs ls X hl hP hS)
  · exact va_getN X.1 X.2.1 X.2.2.2.2.1 hin X.2.2.2.1 X.2.2.2.2.2.2.2.2.2.2.1.1 hP a he h1 k h2 (va_Nw.use rfl (X.2.2.2.2.2.2.2.2.2.2.1.2.1 _ h3)) (fun _ h => h) hv hd (kk p e s m args below meth c D cy L A H locs ls X hl hP hS)
theorem e_getR {a ci k idx N b : Nat} {q : Bool} (hd : decode K.2.1 pc = .ok (.getfield idx, 3)) (hp : pc + 3 = pc') (hk : pmLk K.1.cls idx ci k q) (ht : pmTy ci k = false) (hs : psh a = (ci, N)) (hc : ci < 5) (ha : a < n) (hr : M.2.1 a k = some b) (kk : Ev l K G R n u w pc' lo (.ref b :: st) M) : Ev l K G R n u w pc lo (.ref a :: st) M := by
  subst hp
  refine fun p e s m args below meth c D cy L A H locs ls X hl hP hS => ?_
  obtain ⟨C, T, N', h1, h2, -, h3⟩ := hk
  obtain ⟨hin, -, -⟩ := pm_cls ci C T N' h1
  have hN : N = N' := by
    match ci, h1, hs with
    | 0, h1, hs => cases h1; exact pm_len hs
    | 1, h1, hs => cases h1; exact pm_len hs
    | 2, h1, hs => cases h1; exact pm_len hs
    | 3, h1, hs => cases h1; exact pm_len hs
    | 4, h1, hs => cases h1; exact pm_len hs
    | z + 5, h1, hs => simp at h1
  subst hN
  have he := pmWl_get (cy := cy) (L := L) (M := M) ha
  rw [pmE_obj hs hc] at he
  have hv : ((List.range N).map (pmF L M a ci))[k]? = some (.ref (L b)) := by simp [h2, pmF, ht, hr, va_rf]
  rcases h3 with h3 | ⟨host, h3⟩
  · exact va_get X.1 X.2.1 X.2.2.2.2.1 hin X.2.2.2.1 X.2.2.2.2.2.2.2.2.2.2.1.1 hP a he h1 k h2 (X.2.2.2.2.1 _ h3) (fun _ h => h) hv hd (kk p e s m args below meth c D cy L A H locs ls X hl hP hS)
  · exact va_getN X.1 X.2.1 X.2.2.2.2.1 hin X.2.2.2.1 X.2.2.2.2.2.2.2.2.2.2.1.1 hP a he h1 k h2 (va_Nw.use rfl (X.2.2.2.2.2.2.2.2.2.2.1.2.1 _ h3)) (fun _ h => h) hv hd (kk p e s m args below meth c D cy L A H locs ls X hl hP hS)
theorem e_putI {a ci k idx N : Nat} {x : Int32} (hd : decode K.2.1 pc = .ok (.putfield idx, 3)) (hp : pc + 3 = pc') (hk : pmLk K.1.cls idx ci k true) (ht : pmTy ci k = true) (hn : narrow (pmFt ci k) (.int x) = .int x) (hf : fits (pmFt ci k) (.int x) = true) (hs : psh a = (ci, N)) (hc : ci < 5) (ha : a < n) (kk : Ev l K G R n u w pc' lo st (pm2 M.1 a k x, M.2)) : Ev l K G R n u w pc lo (.int x :: .ref a :: st) M := by
  subst hp
  refine fun p e s m args below meth c D cy L A H locs ls X hl hP hS => ?_
  obtain ⟨C, T, N', h1, h2, h4, h3⟩ := hk
  obtain ⟨hin, hty, hnm⟩ := pm_cls ci C T N' h1
  have hfin : (T k).2.2.2 = false := h4.resolve_right (by decide)
  have hN : N = N' := by
    match ci, h1, hs with
    | 0, h1, hs => cases h1; exact pm_len hs
    | 1, h1, hs => cases h1; exact pm_len hs
    | 2, h1, hs => cases h1; exact pm_len hs
    | 3, h1, hs => cases h1; exact pm_len hs
    | 4, h1, hs => cases h1; exact pm_len hs
    | z + 5, h1, hs => simp at h1
  subst hN
  have he := pmWl_get (cy := cy) (L := L) (M := M) ha
  rw [pmE_obj hs hc] at he
  have hD := pmWl_D (cy := cy) (M := M) X.2.2.2.2.2.2.2.2.2.2.2.2.2.1 X.2.2.2.2.2.2.2.2.2.2.2.2.2.2
  have hset : ((List.range N).map (pmF L M a ci)).set k (.int x) = (List.range N).map (pmF L (pm2 M.1 a k x, M.2) a ci) :=
    pm_fset h2 (by simp [pmF, ht, pm2]) (fun j hj => by simp [pmF, pm2, hj])
  have hW : (pmWl cy L M n).set a (L a, .inr (ci, ((List.range N).map (pmF L M a ci)).set k (.int x))) = pmWl cy L (pm2 M.1 a k x, M.2) n :=
    pmWl_set (by rw [hset, pmE_obj hs hc]) (fun j _ hj => pmE_congr (pm2_ne hj) rfl rfl rfl)
  rcases h3 with h3 | ⟨host, h3⟩
  · exact va_put X.1 X.2.1 X.2.2.2.2.1 hin (pmFt ci) hty hnm X.2.2.2.1 X.2.2.2.2.2.2.2.2.2.2.1.1 hP hD hS a he h1 k h2 (X.2.2.2.2.1 _ h3) (fun _ h => h) hfin (hty k h2) hn hf (by simp [h2]) hd (fun H1 locs1 hP1 _ hS1 => kk p e s m args below meth c D cy L A H1 locs1 ls X hl (hW ▸ hP1) hS1)
  · exact va_putN X.1 X.2.1 X.2.2.2.2.1 hin (pmFt ci) hty hnm X.2.2.2.1 X.2.2.2.2.2.2.2.2.2.2.1.1 hP hD hS a he h1 k h2 (va_Nw.use rfl (X.2.2.2.2.2.2.2.2.2.2.1.2.1 _ h3)) (fun _ h => h) hfin (hty k h2) hn hf (by simp [h2]) hd (fun H1 locs1 hP1 _ hS1 => kk p e s m args below meth c D cy L A H1 locs1 ls X hl (hW ▸ hP1) hS1)
theorem e_iald {a N j : Nat} {i : Int32} (hd : decode K.2.1 pc = .ok (.iaload, 1)) (hp : pc + 1 = pc') (hs : psh a = (5, N)) (ha : a < n) (hi : i = nI j) (hj : j < N) (kk : Ev l K G R n u w pc' lo (.int (M.1 a j) :: st) M) : Ev l K G R n u w pc lo (.int i :: .ref a :: st) M := by
  subst hp
  subst hi
  refine fun p e s m args below meth c D cy L A H locs ls X hl hP hS => ?_
  have hb := pm_len31 a
  rw [hs] at hb
  have he := pmWl_get (cy := cy) (L := L) (M := M) ha
  rw [pmE_int hs (Or.inl rfl)] at he
  refine va_iald X.1 X.2.1 X.2.2.2.2.2.2.2.2.2.2.1.1 hP a 0 he rfl (vp_in_nI hj (by show N < _; omega)) hd ?_
  rw [nI_clamp (show j < 2 ^ 31 by have : N < 2 ^ 31 := hb; omega)]
  exact kk p e s m args below meth c D cy L A H locs ls X hl hP hS
theorem e_iast {a N j : Nat} {i x : Int32} (hd : decode K.2.1 pc = .ok (.iastore, 1)) (hp : pc + 1 = pc') (hs : psh a = (5, N)) (ha : a < n) (hi : i = nI j) (hj : j < N) (kk : Ev l K G R n u w pc' lo st (pm2 M.1 a j x, M.2)) : Ev l K G R n u w pc lo (.int x :: .int i :: .ref a :: st) M := by
  subst hp
  subst hi
  refine fun p e s m args below meth c D cy L A H locs ls X hl hP hS => ?_
  have hb := pm_len31 a
  rw [hs] at hb
  have he := pmWl_get (cy := cy) (L := L) (M := M) ha
  rw [pmE_int hs (Or.inl rfl)] at he
  have hD := pmWl_D (cy := cy) (M := M) X.2.2.2.2.2.2.2.2.2.2.2.2.2.1 X.2.2.2.2.2.2.2.2.2.2.2.2.2.2
  refine va_iast X.1 X.2.1 X.2.2.2.2.2.2.2.2.2.2.1.1 hP hD hS a 0 he rfl (vp_in_nI hj (by show N < _; omega)) hd (fun H1 locs1 hP1 _ hS1 => ?_)
  rw [nI_clamp (show j < 2 ^ 31 by have : N < 2 ^ 31 := hb; omega)] at hP1
  have hW : (pmWl cy L M n).set a (L a, .inl (cy 5, N, .inl (upd (M.1 a) j x))) = pmWl cy L (pm2 M.1 a j x, M.2) n :=
    pmWl_set (by rw [pmE_int hs (Or.inl rfl)]; show _ = Sum.inl (cy 5, N, Sum.inl (pm2 M.1 a j x a)); rw [pm2_self]) (fun q _ hq => pmE_congr (pm2_ne hq) rfl rfl rfl)
  exact kk p e s m args below meth c D cy L A H1 locs1 ls X hl (hW ▸ hP1) hS1
/-- which array of references is which: its place among pmTys -/
theorem e_aald {a N j k b : Nat} {i : Int32} (hd : decode K.2.1 pc = .ok (.aaload, 1)) (hp : pc + 1 = pc') (hs : psh a = (k, N)) (h7 : 7 ≤ k) (h10 : k ≤ 10) (ha : a < n) (hi : i = nI j) (hj : j < N) (hr : M.2.1 a j = some b) (kk : Ev l K G R n u w pc' lo (.ref b :: st) M) : Ev l K G R n u w pc lo (.int i :: .ref a :: st) M := by
  subst hp
  subst hi
  refine fun p e s m args below meth c D cy L A H locs ls X hl hP hS => ?_
  have hb := pm_len31 a
  rw [hs] at hb
  have hN : N < 2 ^ 31 := hb
  have he := pmWl_get (cy := cy) (L := L) (M := M) ha
  rw [pmE_ref hs h7 (by omega)] at he
  have hcl : (nI j).toNatClampNeg = j := nI_clamp (by omega)
  have hin : vp_in (nI j) N := vp_in_nI hj hN
  obtain ⟨ty, hty, hrf⟩ : ∃ ty, (pmTys cy)[k - 5]? = some (cy k, ty) ∧ ty.isReference = true := by
    rcases (show k = 7 ∨ k = 8 ∨ k = 9 ∨ k = 10 by omega) with rfl | rfl | rfl | rfl <;> exact ⟨_, rfl, rfl⟩
  have hf : (fun j => (M.2.1 a j).map L) j = some (L b) := by show (M.2.1 a j).map L = _; rw [hr]; rfl
  exact W.aald (v := .ref (L b)) (ty := ty) X.1 X.2.1 (hP a _ he) ((X.2.2.2.2.2.2.2.2.2.2.1.1.2 _ _ hty).1 N (fun j => va_rf ((M.2.1 a j).map L))) hrf (fun q => by cases q) (by show ¬ (nI j < 0 ∨ (arrV _ _ _).slots.size ≤ _); rw [arrV_size]; exact hin) (by show (arrV _ _ _).slots[_]? = _; rw [hcl, arrV_read _ _ hj]; show some (va_rf ((M.2.1 a j).map L)) = _; rw [hr]; rfl) rfl rfl hd (kk p e s m args below meth c D cy L A H locs ls X hl hP hS)
theorem e_aast {a N j k b ci NB : Nat} {i : Int32} (hd : decode K.2.1 pc = .ok (.aastore, 1)) (hp : pc + 1 = pc') (hs : psh a = (k, N)) (h7 : (k = 7 ∧ ci = 0) ∨ (k = 8 ∧ ci = 1) ∨ (k = 9 ∧ ci = 2)) (ha : a < n) (hi : i = nI j) (hj : j < N) (hsb : psh b = (ci, NB)) (hb : b < n) (kk : Ev l K G R n u w pc' lo st (M.1, pm2 M.2.1 a j (some b), M.2.2)) : Ev l K G R n u w pc lo (.ref b :: .int i :: .ref a :: st) M := by
  subst hp
  subst hi
  refine fun p e s m args below meth c D cy L A H locs ls X hl hP hS => ?_
  have hb0 := pm_len31 a
  rw [hs] at hb0
  have hN : N < 2 ^ 31 := hb0
  have he := pmWl_get (cy := cy) (L := L) (M := M) ha
  rw [pmE_ref hs (by omega) (by omega)] at he
  have heb := pmWl_get (cy := cy) (L := L) (M := M) hb
  rw [pmE_obj hsb (by omega)] at heb
  have hD := pmWl_D (cy := cy) (M := M) X.2.2.2.2.2.2.2.2.2.2.2.2.2.1 X.2.2.2.2.2.2.2.2.2.2.2.2.2.2
  have hcl : (nI j).toNatClampNeg = j := nI_clamp (by omega)
  obtain ⟨r, hr1, hr2⟩ : ∃ r : vw_C, pmCl[ci]? = some r ∧ (pmTys cy)[k - 5]? = some (cy k, .object r.1) := by
    rcases h7 with ⟨rfl, rfl⟩ | ⟨rfl, rfl⟩ | ⟨rfl, rfl⟩ <;> exact ⟨_, rfl, rfl⟩
  refine va_astq X.1 X.2.1 X.2.2.2.2.2.2.2.2.2.2.1.1 hP hD hS a (k - 5) b ci he hr2 heb hr1 (vp_in_nI hj hN) hd (fun H1 locs1 hP1 _ hS1 => ?_)
  rw [hcl, ← pm2_selfR] at hP1
  have hW : (pmWl cy L M n).set a (L a, .inl (cy k, N, .inr (.inr (.inr (.inr (fun q => (pm2 M.2.1 a j (some b) a q).map L)))))) = pmWl cy L (M.1, pm2 M.2.1 a j (some b), M.2.2) n :=
    pmWl_set (by rw [pmE_ref hs (by omega) (by omega)]) (fun q _ hq => pmE_congr rfl (pm2_ne hq) rfl rfl)
  exact kk p e s m args below meth c D cy L A H1 locs1 ls X hl (hW ▸ hP1) hS1
theorem e_alen {a N k : Nat} {v : Int32} (hd : decode K.2.1 pc = .ok (.arraylength, 1)) (hp : pc + 1 = pc') (hs : psh a = (k, N)) (hk : 5 ≤ k ∧ k ≤ 12) (ha : a < n) (hv : nI N = v) (kk : Ev l K G R n u w pc' lo (.int v :: st) M) : Ev l K G R n u w pc lo (.ref a :: st) M := by
  subst hp
  refine fun p e s m args below meth c D cy L A H locs ls X hl hP hS => ?_
  have he := pmWl_get (cy := cy) (L := L) (M := M) ha
  have hE : pmE cy L M a = .inl (cy k, N, pmAr L M a) := by
    unfold pmE
    rw [hs, if_neg (by show ¬ k < 5; omega)]
  rw [hE] at he
  obtain ⟨ty, hty⟩ : ∃ ty, (pmTys cy)[k - 5]? = some (cy k, ty) := by
    rcases (show k = 5 ∨ k = 6 ∨ k = 7 ∨ k = 8 ∨ k = 9 ∨ k = 10 ∨ k = 11 ∨ k = 12 by omega) with rfl | rfl | rfl | rfl | rfl | rfl | rfl | rfl <;> exact ⟨_, rfl⟩
  exact va_alen X.1 X.2.1 X.2.2.2.2.2.2.2.2.2.2.1.1 hP a (k - 5) he hty hv hd (kk p e s m args below meth c D cy L A H locs ls X hl hP hS)

end EVR
