/-! ===== constructors ===== -/
theorem obX0 : pmOb RX0 3 := ⟨gw_of 131 (by decide +kernel) rfl, gw_of 53 (by decide +kernel) rfl, gw_of 54 (by decide +kernel) rfl⟩
theorem obX1 : pmOb RX1 3 := ⟨gw_of 85 (by decide +kernel) rfl, gw_of 53 (by decide +kernel) rfl, gw_of 54 (by decide +kernel) rfl⟩
theorem obX2 : pmOb RX2 3 := ⟨gw_of 67 (by decide +kernel) rfl, gw_of 53 (by decide +kernel) rfl, gw_of 54 (by decide +kernel) rfl⟩
theorem obX3 : pmOb RX3 3 := ⟨gw_of 52 (by decide +kernel) rfl, gw_of 53 (by decide +kernel) rfl, gw_of 54 (by decide +kernel) rfl⟩
theorem lfX0_9 : pmLf RX0 9 0 0 := ⟨_, _, _, rfl, by decide, rfl, rfl, gw_of 132 (by decide +kernel) rfl⟩
theorem lfX0_15 : pmLf RX0 15 0 1 := ⟨_, _, _, rfl, by decide, rfl, rfl, gw_of 134 (by decide +kernel) rfl⟩
theorem lfX1_9 : pmLf RX1 9 1 8 := ⟨_, _, _, rfl, by decide, rfl, rfl, gw_of 102 (by decide +kernel) rfl⟩
theorem lfX1_15 : pmLf RX1 15 1 9 := ⟨_, _, _, rfl, by decide, rfl, rfl, gw_of 104 (by decide +kernel) rfl⟩
theorem lfX2_9 : pmLf RX2 9 2 0 := ⟨_, _, _, rfl, by decide, rfl, rfl, gw_of 68 (by decide +kernel) rfl⟩
theorem lfX3_11 : pmLf RX3 11 3 0 := ⟨_, _, _, rfl, by decide, rfl, rfl, gw_of 145 (by decide +kernel) rfl⟩
theorem lfX3_17 : pmLf RX3 17 3 2 := ⟨_, _, _, rfl, by decide, rfl, rfl, gw_of 147 (by decide +kernel) rfl⟩
theorem lfX3_23 : pmLf RX3 23 3 6 := ⟨_, _, _, rfl, by decide, rfl, rfl, gw_of 151 (by decide +kernel) rfl⟩
theorem lfX3_27 : pmLf RX3 27 3 7 := ⟨_, _, _, rfl, by decide, rfl, rfl, gw_of 152 (by decide +kernel) rfl⟩
theorem lfX3_33 : pmLf RX3 33 3 8 := ⟨_, _, _, rfl, by decide, rfl, rfl, gw_of 153 (by decide +kernel) rfl⟩
theorem ciL_144 : pmCi RL 144 kX3_init 0 := ⟨gw_of 49 (by decide +kernel) rfl, gw_of 50 (by decide +kernel) rfl, gw_of 29 (by decide +kernel) rfl, gw_of 51 (by decide +kernel) rfl, ⟨by decide +kernel, by decide +kernel, by decide +kernel⟩⟩
theorem ciX3_36 : pmCin RX3 36 kX2_init 0 := ⟨⟨"FilterRules", nw_of 64 (by decide +kernel) rfl⟩, gw_of 65 (by decide +kernel) rfl, gw_of 30 (by decide +kernel) rfl, gw_of 66 (by decide +kernel) rfl, ⟨by decide +kernel, by decide +kernel, by decide +kernel⟩⟩
theorem ciX3_37 : pmCin RX3 37 kX1_init 0 := ⟨⟨"FilterRules", nw_of 82 (by decide +kernel) rfl⟩, gw_of 83 (by decide +kernel) rfl, gw_of 31 (by decide +kernel) rfl, gw_of 84 (by decide +kernel) rfl, ⟨by decide +kernel, by decide +kernel, by decide +kernel⟩⟩
theorem ciX3_38 : pmCin RX3 38 kX0_init 0 := ⟨⟨"FilterRules", nw_of 128 (by decide +kernel) rfl⟩, gw_of 129 (by decide +kernel) rfl, gw_of 32 (by decide +kernel) rfl, gw_of 130 (by decide +kernel) rfl, ⟨by decide +kernel, by decide +kernel, by decide +kernel⟩⟩
theorem ac_int : Cond.arrayClass .int ∈ gw := gw_of 80 (by decide +kernel) rfl
theorem e_n {l : Launch} {K : pmKey} {G : pmG} {R : Room} {n n2 u w pc : Nat} {lo : List (Option Value)} {st : List Value} {M : pmM} (h : n = n2) (kk : Ev l K G R n2 u w pc lo st M) : Ev l K G R n u w pc lo st M := by
  subst h; exact kk
theorem e_aastR {l : Launch} {K : pmKey} {G : pmG} {R : Room} {n u w pc pc' : Nat} {lo : List (Option Value)} {st : List Value} {tl : List (Nat × Nat × Nat)} {a N j k b ci NB : Nat} {i : Int32} (hd : decode K.2.1 pc = .ok (.aastore, 1)) (hp : pc + 1 = pc') (hs : psh a = (k, N)) (h7 : (k = 7 ∧ ci = 0) ∨ (k = 8 ∧ ci = 1) ∨ (k = 9 ∧ ci = 2)) (ha : a < n) (hi : i = nI j) (hj : j < N) (hsb : psh b = (ci, NB)) (hb : b < n) (kk : Ev l K G R n u w pc' lo st (MR ((a, j, b) :: tl))) : Ev l K G R n u w pc lo (.ref b :: .int i :: .ref a :: st) (MR tl) := e_aast hd hp hs h7 ha hi hj hsb hb kk
theorem rf_a {a n n' : Nat} (h : a < n) : rfV n n' (.ref a) := Or.inl h
theorem rf_b {a n n' : Nat} (h : n' ≤ a) : rfV n n' (.ref a) := Or.inr h
theorem ro_a {a n n' : Nat} (h : a < n) : rfO n n' (some (.ref a)) := Or.inl h
theorem ro_b {a n n' : Nat} (h : n' ≤ a) : rfO n n' (some (.ref a)) := Or.inr h
theorem qE {tl : List (Nat × Nat × Nat)} {n kd N : Nat} (hs : psh n = (kd, N)) (h7 : 7 ≤ kd) (h11 : kd < 11) (h : ∀ t ∈ tl, t.1 ≠ n) (cy : Nat → ClassId) (L : Nat → Nat) : pmE cy L (MR tl) n = .inl (cy kd, N, .inr (.inr (.inr (.inr (fun _ => none))))) := by
  rw [pmE_ref hs h7 h11]
  refine congrArg (fun f => Sum.inl (cy kd, N, Sum.inr (Sum.inr (Sum.inr (Sum.inr f))))) (funext fun j => ?_)
  show (rt tl n j).map L = none
  cases e : rt tl n j with
  | none => rfl
  | some m =>
    obtain ⟨t, t1, t2, -⟩ := rt_mem tl e
    exact absurd t2 (h t t1)
theorem rf_lt {tl : List (Nat × Nat × Nat)} {n n' : Nat} (h : ∀ t ∈ tl, t.2.2 < n) (h2 : n ≤ n') : ∀ t ∈ tl, t.2.2 < n' := fun t ht => Nat.lt_of_lt_of_le (h t ht) h2
theorem rf_cons {tl : List (Nat × Nat × Nat)} {n a k b : Nat} (hb : b < n) (h : ∀ t ∈ tl, t.2.2 < n) : ∀ t ∈ (a, k, b) :: tl, t.2.2 < n := List.forall_mem_cons.mpr ⟨hb, h⟩
theorem c_VS {l : Launch} (hf : l.stackTraces = false) {i : Nat} (hi : i < 8) {tl : List (Nat × Nat × Nat)} (hl : ∀ t ∈ tl, t.2.2 < 16 + 2 * i) : SpN l kX2_init (16 + 2 * i) (17 + 2 * i) 1 1 3 [.ref (15 + 2 * i)] (MR tl) (MR ((15 + 2 * i, 0, 16 + 2 * i) :: tl)) := by
  refine spN_of hf (by decide +kernel) (Nat.le_of_ble_eq_true rfl) (by intro v hv; simp at hv; subst hv; rfl) rfl ?_
  refine e_aload_0 dX2_init_0 rfl ?_
  refine e_obj dX2_init_1 rfl obX2 ⟨Nat.le_of_ble_eq_true rfl, Nat.le_of_ble_eq_true rfl⟩ (Nat.le_of_ble_eq_true rfl) ?_
  refine e_aload_0 dX2_init_4 rfl ?_
  refine e_iconst (v := nI 3) dX2_init_5 rfl ic_3 ?_
  refine e_newA (ty := .int) (N := 3) (kd := 5) (t0 := 0) (a0 := (3, .inl fun _ => 0)) dX2_init_6 rfl rfl (fun _ => rfl) ac_int (fun _ _ => pmE_int (ps_G hi) (Or.inl rfl)) (fun _ => rfl) (fun _ _ h => h) (by decide) (by decide) (by decide) (gN_mon (by omega) (by omega)) hl ⟨rf_a (by omega), trivial⟩ ⟨ro_a (by omega), trivial⟩ ⟨Nat.le_of_ble_eq_true rfl, Nat.le_of_ble_eq_true rfl⟩ ?_
  refine e_n (show 16 + 2 * i + 1 = 17 + 2 * i by omega) ?_
  refine e_putR dX2_init_8 rfl lfX2_9 rfl rfl (fun _ => rfl) (fun _ => rfl) (ps_O hi) (by decide) (by omega) ?_
  exact e_vretN dX2_init_11 rfl (Nat.le_of_ble_eq_true rfl) (Nat.le_of_ble_eq_true rfl) rfl
theorem c_RU {l : Launch} (hf : l.stackTraces = false) {i : Nat} (hi : i < 8) {tl : List (Nat × Nat × Nat)} (hl : ∀ t ∈ tl, t.2.2 < 32 + 3 * i) : SpN l kX1_init (32 + 3 * i) (34 + 3 * i) 1 2 6 [.ref (31 + 3 * i)] (MR tl) (MR ((31 + 3 * i, 9, 33 + 3 * i) :: (31 + 3 * i, 8, 32 + 3 * i) :: tl)) := by
  refine spN_of hf (by decide +kernel) (Nat.le_of_ble_eq_true rfl) (by intro v hv; simp at hv; subst hv; rfl) rfl ?_
  refine e_aload_0 dX1_init_0 rfl ?_
  refine e_obj dX1_init_1 rfl obX1 ⟨Nat.le_of_ble_eq_true rfl, Nat.le_of_ble_eq_true rfl⟩ (Nat.le_of_ble_eq_true rfl) ?_
  refine e_aload_0 dX1_init_4 rfl ?_
  refine e_iconst (v := nI 3) dX1_init_5 rfl ic_3 ?_
  refine e_newA (ty := .int) (N := 3) (kd := 5) (t0 := 0) (a0 := (3, .inl fun _ => 0)) dX1_init_6 rfl rfl (fun _ => rfl) ac_int (fun _ _ => pmE_int (ps_B hi) (Or.inl rfl)) (fun _ => rfl) (fun _ _ h => h) (by decide) (by decide) (by decide) (gN_mon (by omega) (by omega)) hl ⟨rf_a (by omega), trivial⟩ ⟨ro_a (by omega), trivial⟩ ⟨Nat.le_of_ble_eq_true rfl, Nat.le_of_ble_eq_true rfl⟩ ?_
  refine e_n (show 32 + 3 * i + 1 = 33 + 3 * i by omega) ?_
  refine e_putR dX1_init_8 rfl lfX1_9 rfl rfl (fun _ => rfl) (fun _ => rfl) (ps_R hi) (by decide) (by omega) ?_
  refine e_aload_0 dX1_init_11 rfl ?_
  refine e_iconst (v := nI 3) dX1_init_12 rfl ic_3 ?_
  refine e_newA (ty := .int) (N := 3) (kd := 5) (t0 := 0) (a0 := (3, .inl fun _ => 0)) dX1_init_13 rfl rfl (fun _ => rfl) ac_int (fun _ _ => pmE_int (ps_M hi) (Or.inl rfl)) (fun _ => rfl) (fun _ _ h => h) (by decide) (by decide) (by decide) (gN_mon (by omega) (by omega)) (rf_cons (by omega) (rf_lt hl (by omega))) ⟨rf_a (by omega), trivial⟩ ⟨ro_a (by omega), trivial⟩ ⟨Nat.le_of_ble_eq_true rfl, Nat.le_of_ble_eq_true rfl⟩ ?_
  refine e_n (show 33 + 3 * i + 1 = 34 + 3 * i by omega) ?_
  refine e_putR dX1_init_15 rfl lfX1_15 rfl rfl (fun _ => rfl) (fun _ => rfl) (ps_R hi) (by decide) (by omega) ?_
  exact e_vretN dX1_init_18 rfl (Nat.le_of_ble_eq_true rfl) (Nat.le_of_ble_eq_true rfl) rfl
theorem c_GR {l : Launch} (hf : l.stackTraces = false) {i : Nat} (hi : i < 3) {tl : List (Nat × Nat × Nat)} (hl : ∀ t ∈ tl, t.2.2 < 56 + 3 * i) : SpN l kX0_init (56 + 3 * i) (58 + 3 * i) 1 2 64 [.ref (55 + 3 * i)] (MR tl) (MR ((55 + 3 * i, 1, 57 + 3 * i) :: (55 + 3 * i, 0, 56 + 3 * i) :: tl)) := by
  refine spN_of hf (by decide +kernel) (Nat.le_of_ble_eq_true rfl) (by intro v hv; simp at hv; subst hv; rfl) rfl ?_
  refine e_aload_0 dX0_init_0 rfl ?_
  refine e_obj dX0_init_1 rfl obX0 ⟨Nat.le_of_ble_eq_true rfl, Nat.le_of_ble_eq_true rfl⟩ (Nat.le_of_ble_eq_true rfl) ?_
  refine e_aload_0 dX0_init_4 rfl ?_
  refine e_bipush (v := nI 32) dX0_init_5 rfl bc_32 ?_
  refine e_newA (ty := .int) (N := 32) (kd := 5) (t0 := 0) (a0 := (32, .inl fun _ => 0)) dX0_init_7 rfl rfl (fun _ => rfl) ac_int (fun _ _ => pmE_int (ps_gM hi) (Or.inl rfl)) (fun _ => rfl) (fun _ _ h => h) (by decide) (by decide) (by decide) (gN_mon (by omega) (by omega)) hl ⟨rf_a (by omega), trivial⟩ ⟨ro_a (by omega), trivial⟩ ⟨Nat.le_of_ble_eq_true rfl, Nat.le_of_ble_eq_true rfl⟩ ?_
  refine e_n (show 56 + 3 * i + 1 = 57 + 3 * i by omega) ?_
  refine e_putR dX0_init_9 rfl lfX0_9 rfl rfl (fun _ => rfl) (fun _ => rfl) (ps_g hi) (by decide) (by omega) ?_
  refine e_aload_0 dX0_init_12 rfl ?_
  refine e_bipush (v := nI 32) dX0_init_13 rfl bc_32 ?_
  refine e_newA (ty := .int) (N := 32) (kd := 5) (t0 := 0) (a0 := (32, .inl fun _ => 0)) dX0_init_15 rfl rfl (fun _ => rfl) ac_int (fun _ _ => pmE_int (ps_gS hi) (Or.inl rfl)) (fun _ => rfl) (fun _ _ h => h) (by decide) (by decide) (by decide) (gN_mon (by omega) (by omega)) (rf_cons (by omega) (rf_lt hl (by omega))) ⟨rf_a (by omega), trivial⟩ ⟨ro_a (by omega), trivial⟩ ⟨Nat.le_of_ble_eq_true rfl, Nat.le_of_ble_eq_true rfl⟩ ?_
  refine e_n (show 57 + 3 * i + 1 = 58 + 3 * i by omega) ?_
  refine e_putR dX0_init_17 rfl lfX0_15 rfl rfl (fun _ => rfl) (fun _ => rfl) (ps_g hi) (by decide) (by omega) ?_
  exact e_vretN dX0_init_20 rfl (Nat.le_of_ble_eq_true rfl) (Nat.le_of_ble_eq_true rfl) rfl
theorem dvX0 : ∀ j, j < 3 → defaultValue (pmFt 0 j) = if pmTy 0 j = true then .int 0 else .null := fun j hj => match j, hj with
  | 0, _ => rfl
  | 1, _ => rfl
  | 2, _ => rfl
  | _ + 3, h => absurd h (by omega)
theorem dvX1 : ∀ j, j < 10 → defaultValue (pmFt 1 j) = if pmTy 1 j = true then .int 0 else .null := fun j hj => match j, hj with
  | 0, _ => rfl
  | 1, _ => rfl
  | 2, _ => rfl
  | 3, _ => rfl
  | 4, _ => rfl
  | 5, _ => rfl
  | 6, _ => rfl
  | 7, _ => rfl
  | 8, _ => rfl
  | 9, _ => rfl
  | _ + 10, h => absurd h (by omega)
theorem dvX2 : ∀ j, j < 3 → defaultValue (pmFt 2 j) = if pmTy 2 j = true then .int 0 else .null := fun j hj => match j, hj with
  | 0, _ => rfl
  | 1, _ => rfl
  | 2, _ => rfl
  | _ + 3, h => absurd h (by omega)
theorem dvX3 : ∀ j, j < 9 → defaultValue (pmFt 3 j) = if pmTy 3 j = true then .int 0 else .null := fun j hj => match j, hj with
  | 0, _ => rfl
  | 1, _ => rfl
  | 2, _ => rfl
  | 3, _ => rfl
  | 4, _ => rfl
  | 5, _ => rfl
  | 6, _ => rfl
  | 7, _ => rfl
  | 8, _ => rfl
  | _ + 9, h => absurd h (by omega)
abbrev TL3 : List (Nat × Nat × Nat) := [(3, 2, 61), (61, 1, 63), (61, 0, 62), (3, 1, 58), (58, 1, 60), (58, 0, 59), (3, 0, 55), (55, 1, 57), (55, 0, 56), (2, 7, 52), (52, 9, 54), (52, 8, 53), (2, 6, 49), (49, 9, 51), (49, 8, 50), (2, 5, 46), (46, 9, 48), (46, 8, 47), (2, 4, 43), (43, 9, 45), (43, 8, 44), (2, 3, 40), (40, 9, 42), (40, 8, 41), (2, 2, 37), (37, 9, 39), (37, 8, 38), (2, 1, 34), (34, 9, 36), (34, 8, 35), (2, 0, 31), (31, 9, 33), (31, 8, 32), (1, 7, 29), (29, 0, 30), (1, 6, 27), (27, 0, 28), (1, 5, 25), (25, 0, 26), (1, 4, 23), (23, 0, 24), (1, 3, 21), (21, 0, 22), (1, 2, 19), (19, 0, 20), (1, 1, 17), (17, 0, 18), (1, 0, 15), (15, 0, 16), (0, 8, 5), (5, 0, 6), (5, 1, 7), (5, 2, 8), (5, 3, 9), (5, 4, 10), (5, 5, 11), (5, 6, 12), (5, 7, 13), (5, 8, 14), (0, 7, 4), (0, 6, 3), (0, 2, 2), (0, 0, 1)]
