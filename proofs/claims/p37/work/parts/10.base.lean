/-! ===== where the cells lie once both objects are made ===== -/
/-- the references: all fixed but the order of the rules -/
def mrC (od : Nat → Nat) (a k : Nat) : Option Nat :=
  if a = 0 then (match k with | 0 => some 1 | 2 => some 2 | 6 => some 3 | 7 => some 4 | 8 => some 5 | _ => none)
  else if a = 1 then some (15 + 2 * k) else if a = 2 then some (31 + 3 * od k) else if a = 3 then some (55 + 3 * k) else if a = 5 then some (6 + k)
  else if a < 31 then (if k = 0 then some (a + 1) else none)
  else if a < 55 then (match k with | 8 => some (a + 1) | 9 => some (a + 2) | _ => none)
  else if a < 64 then (match k with | 0 => some (a + 1) | 1 => some (a + 2) | _ => none)
  else if k < 8 then some (62 + k) else some (60 + k)
theorem mr_order (od : Nat → Nat) (p : Nat) : mrC od 2 p = some (31 + 3 * od p) := rfl
theorem mr_sets (od : Nat → Nat) (p : Nat) : mrC od 1 p = some (15 + 2 * p) := rfl
theorem mr_groups (od : Nat → Nat) (p : Nat) : mrC od 3 p = some (55 + 3 * p) := rfl
theorem mr_tally (od : Nat → Nat) (p : Nat) : mrC od 5 p = some (6 + p) := rfl
theorem mr_O (od : Nat → Nat) {o : Nat} (h : o < 8) : mrC od (15 + 2 * o) 0 = some (16 + 2 * o) := by
  unfold mrC
  rw [if_neg (by omega), if_neg (by omega), if_neg (by omega), if_neg (by omega), if_neg (by omega), if_pos (by omega), if_pos rfl]
  congr 1; omega
theorem mr_R8 (od : Nat → Nat) {j : Nat} (h : j < 8) : mrC od (31 + 3 * j) 8 = some (32 + 3 * j) := by
  unfold mrC
  rw [if_neg (by omega), if_neg (by omega), if_neg (by omega), if_neg (by omega), if_neg (by omega), if_neg (by omega), if_pos (by omega)]
  show some (31 + 3 * j + 1) = _
  congr 1; omega
theorem mr_R9 (od : Nat → Nat) {j : Nat} (h : j < 8) : mrC od (31 + 3 * j) 9 = some (33 + 3 * j) := by
  unfold mrC
  rw [if_neg (by omega), if_neg (by omega), if_neg (by omega), if_neg (by omega), if_neg (by omega), if_neg (by omega), if_pos (by omega)]
  show some (31 + 3 * j + 2) = _
  congr 1; omega
theorem mr_g0 (od : Nat → Nat) {f : Nat} (h : f < 3) : mrC od (55 + 3 * f) 0 = some (56 + 3 * f) := by
  unfold mrC
  rw [if_neg (by omega), if_neg (by omega), if_neg (by omega), if_neg (by omega), if_neg (by omega), if_neg (by omega), if_neg (by omega), if_pos (by omega)]
  show some (55 + 3 * f + 1) = _
  congr 1; omega
theorem mr_g1 (od : Nat → Nat) {f : Nat} (h : f < 3) : mrC od (55 + 3 * f) 1 = some (57 + 3 * f) := by
  unfold mrC
  rw [if_neg (by omega), if_neg (by omega), if_neg (by omega), if_neg (by omega), if_neg (by omega), if_neg (by omega), if_neg (by omega), if_pos (by omega)]
  show some (55 + 3 * f + 2) = _
  congr 1; omega
theorem mr_up (od : Nat → Nat) (p j : Nat) : pm2 (mrC od) 2 p (some (31 + 3 * j)) = mrC (fun q => if q = p then j else od q) := by
  funext a b
  by_cases ha : a = 2
  · subst ha
    by_cases hb : b = p
    · subst hb; simp [pm2, mr_order]
    · simp [pm2, hb, mr_order]
  · show (if a = 2 ∧ b = p then some (31 + 3 * j) else mrC od a b) = _
    rw [if_neg (fun q => ha q.1)]
    unfold mrC
    rw [if_neg ha, if_neg ha]
theorem ps_O {o : Nat} (h : o < 8) : psh (15 + 2 * o) = (2, 3) := (show ∀ o, o < 8 → psh (15 + 2 * o) = (2, 3) by decide +kernel) o h
theorem ps_G {o : Nat} (h : o < 8) : psh (16 + 2 * o) = (5, 3) := (show ∀ o, o < 8 → psh (16 + 2 * o) = (5, 3) by decide +kernel) o h
theorem ps_R {o : Nat} (h : o < 8) : psh (31 + 3 * o) = (1, 10) := (show ∀ o, o < 8 → psh (31 + 3 * o) = (1, 10) by decide +kernel) o h
theorem ps_B {o : Nat} (h : o < 8) : psh (32 + 3 * o) = (5, 3) := (show ∀ o, o < 8 → psh (32 + 3 * o) = (5, 3) by decide +kernel) o h
theorem ps_M {o : Nat} (h : o < 8) : psh (33 + 3 * o) = (5, 3) := (show ∀ o, o < 8 → psh (33 + 3 * o) = (5, 3) by decide +kernel) o h
theorem ps_g {o : Nat} (h : o < 3) : psh (55 + 3 * o) = (0, 3) := (show ∀ o, o < 3 → psh (55 + 3 * o) = (0, 3) by decide +kernel) o h
theorem ps_gM {o : Nat} (h : o < 3) : psh (56 + 3 * o) = (5, 32) := (show ∀ o, o < 3 → psh (56 + 3 * o) = (5, 32) by decide +kernel) o h
theorem ps_gS {o : Nat} (h : o < 3) : psh (57 + 3 * o) = (5, 32) := (show ∀ o, o < 3 → psh (57 + 3 * o) = (5, 32) by decide +kernel) o h
theorem ps_T {o : Nat} (h : o < 9) : psh (6 + o) = (5, 9) := (show ∀ o, o < 9 → psh (6 + o) = (5, 9) by decide +kernel) o h
section EVB
variable {l : Launch} {K : pmKey} {G : pmG} {R : Room} {n u w pc pc' : Nat} {lo : List (Option Value)} {st : List Value} {M : pmM}

theorem e_if_eq_t {x : Int32} {off : Int} {tgt : Nat} (hd : decode K.2.1 pc = .ok (.ifCond .eq off, 3)) (ht : (pc : Int) + off = (tgt : Int)) (h : x = 0) (kk : Ev l K G R n u w tgt lo st M) : Ev l K G R n u w pc lo (.int x :: st) M := e_if_eq hd ht rfl (fun _ => kk) (fun q => absurd h q)
theorem e_if_eq_f {x : Int32} {off : Int} (hd : decode K.2.1 pc = .ok (.ifCond .eq off, 3)) (hp : pc + 3 = pc') (ht : ∃ tgt : Nat, (pc : Int) + off = (tgt : Int)) (h : ¬ x = 0) (kk : Ev l K G R n u w pc' lo st M) : Ev l K G R n u w pc lo (.int x :: st) M := by
  obtain ⟨tgt, ht⟩ := ht
  exact e_if_eq hd ht hp (fun q => absurd q h) (fun _ => kk)

theorem e_if_ne_t {x : Int32} {off : Int} {tgt : Nat} (hd : decode K.2.1 pc = .ok (.ifCond .ne off, 3)) (ht : (pc : Int) + off = (tgt : Int)) (h : ¬ x = 0) (kk : Ev l K G R n u w tgt lo st M) : Ev l K G R n u w pc lo (.int x :: st) M := e_if_ne hd ht rfl (fun _ => kk) (fun q => absurd q h)
theorem e_if_ne_f {x : Int32} {off : Int} (hd : decode K.2.1 pc = .ok (.ifCond .ne off, 3)) (hp : pc + 3 = pc') (ht : ∃ tgt : Nat, (pc : Int) + off = (tgt : Int)) (h : x = 0) (kk : Ev l K G R n u w pc' lo st M) : Ev l K G R n u w pc lo (.int x :: st) M := by
  obtain ⟨tgt, ht⟩ := ht
  exact e_if_ne hd ht hp (fun q => absurd h q) (fun _ => kk)

theorem e_if_lt_t {x : Int32} {off : Int} {tgt : Nat} (hd : decode K.2.1 pc = .ok (.ifCond .lt off, 3)) (ht : (pc : Int) + off = (tgt : Int)) (h : x < 0) (kk : Ev l K G R n u w tgt lo st M) : Ev l K G R n u w pc lo (.int x :: st) M := e_if_lt hd ht rfl (fun _ => kk) (fun q => absurd h q)
theorem e_if_lt_f {x : Int32} {off : Int} (hd : decode K.2.1 pc = .ok (.ifCond .lt off, 3)) (hp : pc + 3 = pc') (ht : ∃ tgt : Nat, (pc : Int) + off = (tgt : Int)) (h : ¬ x < 0) (kk : Ev l K G R n u w pc' lo st M) : Ev l K G R n u w pc lo (.int x :: st) M := by
  obtain ⟨tgt, ht⟩ := ht
  exact e_if_lt hd ht hp (fun q => absurd q h) (fun _ => kk)

theorem e_if_ge_t {x : Int32} {off : Int} {tgt : Nat} (hd : decode K.2.1 pc = .ok (.ifCond .ge off, 3)) (ht : (pc : Int) + off = (tgt : Int)) (h : 0 ≤ x) (kk : Ev l K G R n u w tgt lo st M) : Ev l K G R n u w pc lo (.int x :: st) M := e_if_ge hd ht rfl (fun _ => kk) (fun q => absurd h q)
theorem e_if_ge_f {x : Int32} {off : Int} (hd : decode K.2.1 pc = .ok (.ifCond .ge off, 3)) (hp : pc + 3 = pc') (ht : ∃ tgt : Nat, (pc : Int) + off = (tgt : Int)) (h : ¬ 0 ≤ x) (kk : Ev l K G R n u w pc' lo st M) : Ev l K G R n u w pc lo (.int x :: st) M := by
  obtain ⟨tgt, ht⟩ := ht
  exact e_if_ge hd ht hp (fun q => absurd q h) (fun _ => kk)

theorem e_if_gt_t {x : Int32} {off : Int} {tgt : Nat} (hd : decode K.2.1 pc = .ok (.ifCond .gt off, 3)) (ht : (pc : Int) + off = (tgt : Int)) (h : 0 < x) (kk : Ev l K G R n u w tgt lo st M) : Ev l K G R n u w pc lo (.int x :: st) M := e_if_gt hd ht rfl (fun _ => kk) (fun q => absurd h q)
theorem e_if_gt_f {x : Int32} {off : Int} (hd : decode K.2.1 pc = .ok (.ifCond .gt off, 3)) (hp : pc + 3 = pc') (ht : ∃ tgt : Nat, (pc : Int) + off = (tgt : Int)) (h : ¬ 0 < x) (kk : Ev l K G R n u w pc' lo st M) : Ev l K G R n u w pc lo (.int x :: st) M := by
  obtain ⟨tgt, ht⟩ := ht
  exact e_if_gt hd ht hp (fun q => absurd q h) (fun _ => kk)

theorem e_if_le_t {x : Int32} {off : Int} {tgt : Nat} (hd : decode K.2.1 pc = .ok (.ifCond .le off, 3)) (ht : (pc : Int) + off = (tgt : Int)) (h : x ≤ 0) (kk : Ev l K G R n u w tgt lo st M) : Ev l K G R n u w pc lo (.int x :: st) M := e_if_le hd ht rfl (fun _ => kk) (fun q => absurd h q)
theorem e_if_le_f {x : Int32} {off : Int} (hd : decode K.2.1 pc = .ok (.ifCond .le off, 3)) (hp : pc + 3 = pc') (ht : ∃ tgt : Nat, (pc : Int) + off = (tgt : Int)) (h : ¬ x ≤ 0) (kk : Ev l K G R n u w pc' lo st M) : Ev l K G R n u w pc lo (.int x :: st) M := by
  obtain ⟨tgt, ht⟩ := ht
  exact e_if_le hd ht hp (fun q => absurd q h) (fun _ => kk)

theorem e_ic_eq_t {x y : Int32} {off : Int} {tgt : Nat} (hd : decode K.2.1 pc = .ok (.if_icmp .eq off, 3)) (ht : (pc : Int) + off = (tgt : Int)) (h : x = y) (kk : Ev l K G R n u w tgt lo st M) : Ev l K G R n u w pc lo (.int y :: .int x :: st) M := e_ic_eq hd ht rfl (fun _ => kk) (fun q => absurd h q)
theorem e_ic_eq_f {x y : Int32} {off : Int} (hd : decode K.2.1 pc = .ok (.if_icmp .eq off, 3)) (hp : pc + 3 = pc') (ht : ∃ tgt : Nat, (pc : Int) + off = (tgt : Int)) (h : ¬ x = y) (kk : Ev l K G R n u w pc' lo st M) : Ev l K G R n u w pc lo (.int y :: .int x :: st) M := by
  obtain ⟨tgt, ht⟩ := ht
  exact e_ic_eq hd ht hp (fun q => absurd q h) (fun _ => kk)

theorem e_ic_ne_t {x y : Int32} {off : Int} {tgt : Nat} (hd : decode K.2.1 pc = .ok (.if_icmp .ne off, 3)) (ht : (pc : Int) + off = (tgt : Int)) (h : ¬ x = y) (kk : Ev l K G R n u w tgt lo st M) : Ev l K G R n u w pc lo (.int y :: .int x :: st) M := e_ic_ne hd ht rfl (fun _ => kk) (fun q => absurd q h)
theorem e_ic_ne_f {x y : Int32} {off : Int} (hd : decode K.2.1 pc = .ok (.if_icmp .ne off, 3)) (hp : pc + 3 = pc') (ht : ∃ tgt : Nat, (pc : Int) + off = (tgt : Int)) (h : x = y) (kk : Ev l K G R n u w pc' lo st M) : Ev l K G R n u w pc lo (.int y :: .int x :: st) M := by
  obtain ⟨tgt, ht⟩ := ht
  exact e_ic_ne hd ht hp (fun q => absurd h q) (fun _ => kk)

theorem e_ic_lt_t {x y : Int32} {off : Int} {tgt : Nat} (hd : decode K.2.1 pc = .ok (.if_icmp .lt off, 3)) (ht : (pc : Int) + off = (tgt : Int)) (h : x < y) (kk : Ev l K G R n u w tgt lo st M) : Ev l K G R n u w pc lo (.int y :: .int x :: st) M := e_ic_lt hd ht rfl (fun _ => kk) (fun q => absurd h q)
theorem e_ic_lt_f {x y : Int32} {off : Int} (hd : decode K.2.1 pc = .ok (.if_icmp .lt off, 3)) (hp : pc + 3 = pc') (ht : ∃ tgt : Nat, (pc : Int) + off = (tgt : Int)) (h : ¬ x < y) (kk : Ev l K G R n u w pc' lo st M) : Ev l K G R n u w pc lo (.int y :: .int x :: st) M := by
  obtain ⟨tgt, ht⟩ := ht
  exact e_ic_lt hd ht hp (fun q => absurd q h) (fun _ => kk)

theorem e_ic_ge_t {x y : Int32} {off : Int} {tgt : Nat} (hd : decode K.2.1 pc = .ok (.if_icmp .ge off, 3)) (ht : (pc : Int) + off = (tgt : Int)) (h : y ≤ x) (kk : Ev l K G R n u w tgt lo st M) : Ev l K G R n u w pc lo (.int y :: .int x :: st) M := e_ic_ge hd ht rfl (fun _ => kk) (fun q => absurd h q)
theorem e_ic_ge_f {x y : Int32} {off : Int} (hd : decode K.2.1 pc = .ok (.if_icmp .ge off, 3)) (hp : pc + 3 = pc') (ht : ∃ tgt : Nat, (pc : Int) + off = (tgt : Int)) (h : ¬ y ≤ x) (kk : Ev l K G R n u w pc' lo st M) : Ev l K G R n u w pc lo (.int y :: .int x :: st) M := by
  obtain ⟨tgt, ht⟩ := ht
  exact e_ic_ge hd ht hp (fun q => absurd q h) (fun _ => kk)

theorem e_ic_gt_t {x y : Int32} {off : Int} {tgt : Nat} (hd : decode K.2.1 pc = .ok (.if_icmp .gt off, 3)) (ht : (pc : Int) + off = (tgt : Int)) (h : y < x) (kk : Ev l K G R n u w tgt lo st M) : Ev l K G R n u w pc lo (.int y :: .int x :: st) M := e_ic_gt hd ht rfl (fun _ => kk) (fun q => absurd h q)
theorem e_ic_gt_f {x y : Int32} {off : Int} (hd : decode K.2.1 pc = .ok (.if_icmp .gt off, 3)) (hp : pc + 3 = pc') (ht : ∃ tgt : Nat, (pc : Int) + off = (tgt : Int)) (h : ¬ y < x) (kk : Ev l K G R n u w pc' lo st M) : Ev l K G R n u w pc lo (.int y :: .int x :: st) M := by
  obtain ⟨tgt, ht⟩ := ht
  exact e_ic_gt hd ht hp (fun q => absurd q h) (fun _ => kk)

theorem e_ic_le_t {x y : Int32} {off : Int} {tgt : Nat} (hd : decode K.2.1 pc = .ok (.if_icmp .le off, 3)) (ht : (pc : Int) + off = (tgt : Int)) (h : x ≤ y) (kk : Ev l K G R n u w tgt lo st M) : Ev l K G R n u w pc lo (.int y :: .int x :: st) M := e_ic_le hd ht rfl (fun _ => kk) (fun q => absurd h q)
theorem e_ic_le_f {x y : Int32} {off : Int} (hd : decode K.2.1 pc = .ok (.if_icmp .le off, 3)) (hp : pc + 3 = pc') (ht : ∃ tgt : Nat, (pc : Int) + off = (tgt : Int)) (h : ¬ x ≤ y) (kk : Ev l K G R n u w pc' lo st M) : Ev l K G R n u w pc lo (.int y :: .int x :: st) M := by
  obtain ⟨tgt, ht⟩ := ht
  exact e_ic_le hd ht hp (fun q => absurd q h) (fun _ => kk)

theorem e_nc_eq_t {a b : Nat} {off : Int} {tgt : Nat} (hd : decode K.2.1 pc = .ok (.if_icmp .eq off, 3)) (ht : (pc : Int) + off = (tgt : Int)) (ha : a < 2 ^ 31) (hb : b < 2 ^ 31) (h : a = b) (kk : Ev l K G R n u w tgt lo st M) : Ev l K G R n u w pc lo (.int (nI b) :: .int (nI a) :: st) M := e_ic_eq_t hd ht ((nI_eq ha hb).mpr h) kk
theorem e_nc_eq_f {a b : Nat} {off : Int} (hd : decode K.2.1 pc = .ok (.if_icmp .eq off, 3)) (hp : pc + 3 = pc') (ht : ∃ tgt : Nat, (pc : Int) + off = (tgt : Int)) (ha : a < 2 ^ 31) (hb : b < 2 ^ 31) (h : a ≠ b) (kk : Ev l K G R n u w pc' lo st M) : Ev l K G R n u w pc lo (.int (nI b) :: .int (nI a) :: st) M := e_ic_eq_f hd hp ht (fun q => by have := (nI_eq ha hb).mp q; omega) kk
theorem e_nc_eq {a b : Nat} {off : Int} {tgt : Nat} (hd : decode K.2.1 pc = .ok (.if_icmp .eq off, 3)) (ht : (pc : Int) + off = (tgt : Int)) (hp : pc + 3 = pc') (ha : a < 2 ^ 31) (hb : b < 2 ^ 31) (kt : a = b → Ev l K G R n u w tgt lo st M) (kf : a ≠ b → Ev l K G R n u w pc' lo st M) : Ev l K G R n u w pc lo (.int (nI b) :: .int (nI a) :: st) M := e_ic_eq hd ht hp (fun q => kt ((nI_eq ha hb).mp q)) (fun q => kf (by have := mt (nI_eq ha hb).mpr q; omega))

theorem e_nc_ne_t {a b : Nat} {off : Int} {tgt : Nat} (hd : decode K.2.1 pc = .ok (.if_icmp .ne off, 3)) (ht : (pc : Int) + off = (tgt : Int)) (ha : a < 2 ^ 31) (hb : b < 2 ^ 31) (h : a ≠ b) (kk : Ev l K G R n u w tgt lo st M) : Ev l K G R n u w pc lo (.int (nI b) :: .int (nI a) :: st) M := e_ic_ne_t hd ht (mt (nI_eq ha hb).mp h) kk
theorem e_nc_ne_f {a b : Nat} {off : Int} (hd : decode K.2.1 pc = .ok (.if_icmp .ne off, 3)) (hp : pc + 3 = pc') (ht : ∃ tgt : Nat, (pc : Int) + off = (tgt : Int)) (ha : a < 2 ^ 31) (hb : b < 2 ^ 31) (h : a = b) (kk : Ev l K G R n u w pc' lo st M) : Ev l K G R n u w pc lo (.int (nI b) :: .int (nI a) :: st) M := e_ic_ne_f hd hp ht ((nI_eq ha hb).mpr h) kk
theorem e_nc_ne {a b : Nat} {off : Int} {tgt : Nat} (hd : decode K.2.1 pc = .ok (.if_icmp .ne off, 3)) (ht : (pc : Int) + off = (tgt : Int)) (hp : pc + 3 = pc') (ha : a < 2 ^ 31) (hb : b < 2 ^ 31) (kt : a ≠ b → Ev l K G R n u w tgt lo st M) (kf : a = b → Ev l K G R n u w pc' lo st M) : Ev l K G R n u w pc lo (.int (nI b) :: .int (nI a) :: st) M := e_ic_ne hd ht hp (fun q => kt (fun z => q ((nI_eq ha hb).mpr z))) (fun q => kf ((nI_eq ha hb).mp q))

theorem e_nc_lt_t {a b : Nat} {off : Int} {tgt : Nat} (hd : decode K.2.1 pc = .ok (.if_icmp .lt off, 3)) (ht : (pc : Int) + off = (tgt : Int)) (ha : a < 2 ^ 31) (hb : b < 2 ^ 31) (h : a < b) (kk : Ev l K G R n u w tgt lo st M) : Ev l K G R n u w pc lo (.int (nI b) :: .int (nI a) :: st) M := e_ic_lt_t hd ht ((nI_ltI ha hb).mpr h) kk
theorem e_nc_lt_f {a b : Nat} {off : Int} (hd : decode K.2.1 pc = .ok (.if_icmp .lt off, 3)) (hp : pc + 3 = pc') (ht : ∃ tgt : Nat, (pc : Int) + off = (tgt : Int)) (ha : a < 2 ^ 31) (hb : b < 2 ^ 31) (h : b ≤ a) (kk : Ev l K G R n u w pc' lo st M) : Ev l K G R n u w pc lo (.int (nI b) :: .int (nI a) :: st) M := e_ic_lt_f hd hp ht (fun q => by have := (nI_ltI ha hb).mp q; omega) kk
theorem e_nc_lt {a b : Nat} {off : Int} {tgt : Nat} (hd : decode K.2.1 pc = .ok (.if_icmp .lt off, 3)) (ht : (pc : Int) + off = (tgt : Int)) (hp : pc + 3 = pc') (ha : a < 2 ^ 31) (hb : b < 2 ^ 31) (kt : a < b → Ev l K G R n u w tgt lo st M) (kf : b ≤ a → Ev l K G R n u w pc' lo st M) : Ev l K G R n u w pc lo (.int (nI b) :: .int (nI a) :: st) M := e_ic_lt hd ht hp (fun q => kt ((nI_ltI ha hb).mp q)) (fun q => kf (by have := mt (nI_ltI ha hb).mpr q; omega))

theorem e_nc_ge_t {a b : Nat} {off : Int} {tgt : Nat} (hd : decode K.2.1 pc = .ok (.if_icmp .ge off, 3)) (ht : (pc : Int) + off = (tgt : Int)) (ha : a < 2 ^ 31) (hb : b < 2 ^ 31) (h : b ≤ a) (kk : Ev l K G R n u w tgt lo st M) : Ev l K G R n u w pc lo (.int (nI b) :: .int (nI a) :: st) M := e_ic_ge_t hd ht ((nI_leI hb ha).mpr h) kk
theorem e_nc_ge_f {a b : Nat} {off : Int} (hd : decode K.2.1 pc = .ok (.if_icmp .ge off, 3)) (hp : pc + 3 = pc') (ht : ∃ tgt : Nat, (pc : Int) + off = (tgt : Int)) (ha : a < 2 ^ 31) (hb : b < 2 ^ 31) (h : a < b) (kk : Ev l K G R n u w pc' lo st M) : Ev l K G R n u w pc lo (.int (nI b) :: .int (nI a) :: st) M := e_ic_ge_f hd hp ht (fun q => by have := (nI_leI hb ha).mp q; omega) kk
theorem e_nc_ge {a b : Nat} {off : Int} {tgt : Nat} (hd : decode K.2.1 pc = .ok (.if_icmp .ge off, 3)) (ht : (pc : Int) + off = (tgt : Int)) (hp : pc + 3 = pc') (ha : a < 2 ^ 31) (hb : b < 2 ^ 31) (kt : b ≤ a → Ev l K G R n u w tgt lo st M) (kf : a < b → Ev l K G R n u w pc' lo st M) : Ev l K G R n u w pc lo (.int (nI b) :: .int (nI a) :: st) M := e_ic_ge hd ht hp (fun q => kt ((nI_leI hb ha).mp q)) (fun q => kf (by have := mt (nI_leI hb ha).mpr q; omega))

theorem e_nc_gt_t {a b : Nat} {off : Int} {tgt : Nat} (hd : decode K.2.1 pc = .ok (.if_icmp .gt off, 3)) (ht : (pc : Int) + off = (tgt : Int)) (ha : a < 2 ^ 31) (hb : b < 2 ^ 31) (h : b < a) (kk : Ev l K G R n u w tgt lo st M) : Ev l K G R n u w pc lo (.int (nI b) :: .int (nI a) :: st) M := e_ic_gt_t hd ht ((nI_ltI hb ha).mpr h) kk
theorem e_nc_gt_f {a b : Nat} {off : Int} (hd : decode K.2.1 pc = .ok (.if_icmp .gt off, 3)) (hp : pc + 3 = pc') (ht : ∃ tgt : Nat, (pc : Int) + off = (tgt : Int)) (ha : a < 2 ^ 31) (hb : b < 2 ^ 31) (h : a ≤ b) (kk : Ev l K G R n u w pc' lo st M) : Ev l K G R n u w pc lo (.int (nI b) :: .int (nI a) :: st) M := e_ic_gt_f hd hp ht (fun q => by have := (nI_ltI hb ha).mp q; omega) kk
theorem e_nc_gt {a b : Nat} {off : Int} {tgt : Nat} (hd : decode K.2.1 pc = .ok (.if_icmp .gt off, 3)) (ht : (pc : Int) + off = (tgt : Int)) (hp : pc + 3 = pc') (ha : a < 2 ^ 31) (hb : b < 2 ^ 31) (kt : b < a → Ev l K G R n u w tgt lo st M) (kf : a ≤ b → Ev l K G R n u w pc' lo st M) : Ev l K G R n u w pc lo (.int (nI b) :: .int (nI a) :: st) M := e_ic_gt hd ht hp (fun q => kt ((nI_ltI hb ha).mp q)) (fun q => kf (by have := mt (nI_ltI hb ha).mpr q; omega))

theorem e_nc_le_t {a b : Nat} {off : Int} {tgt : Nat} (hd : decode K.2.1 pc = .ok (.if_icmp .le off, 3)) (ht : (pc : Int) + off = (tgt : Int)) (ha : a < 2 ^ 31) (hb : b < 2 ^ 31) (h : a ≤ b) (kk : Ev l K G R n u w tgt lo st M) : Ev l K G R n u w pc lo (.int (nI b) :: .int (nI a) :: st) M := e_ic_le_t hd ht ((nI_leI ha hb).mpr h) kk
theorem e_nc_le_f {a b : Nat} {off : Int} (hd : decode K.2.1 pc = .ok (.if_icmp .le off, 3)) (hp : pc + 3 = pc') (ht : ∃ tgt : Nat, (pc : Int) + off = (tgt : Int)) (ha : a < 2 ^ 31) (hb : b < 2 ^ 31) (h : b < a) (kk : Ev l K G R n u w pc' lo st M) : Ev l K G R n u w pc lo (.int (nI b) :: .int (nI a) :: st) M := e_ic_le_f hd hp ht (fun q => by have := (nI_leI ha hb).mp q; omega) kk
theorem e_nc_le {a b : Nat} {off : Int} {tgt : Nat} (hd : decode K.2.1 pc = .ok (.if_icmp .le off, 3)) (ht : (pc : Int) + off = (tgt : Int)) (hp : pc + 3 = pc') (ha : a < 2 ^ 31) (hb : b < 2 ^ 31) (kt : a ≤ b → Ev l K G R n u w tgt lo st M) (kf : b < a → Ev l K G R n u w pc' lo st M) : Ev l K G R n u w pc lo (.int (nI b) :: .int (nI a) :: st) M := e_ic_le hd ht hp (fun q => kt ((nI_leI ha hb).mp q)) (fun q => kf (by have := mt (nI_leI ha hb).mpr q; omega))

theorem lt_VS {o : Nat} (h : o < 8) : 15 + 2 * o < 64 := by omega
theorem lt_VR {o : Nat} (h : o < 8) : 16 + 2 * o < 64 := by omega
theorem lt_RU {o : Nat} (h : o < 8) : 31 + 3 * o < 64 := by omega
theorem lt_RB {o : Nat} (h : o < 8) : 32 + 3 * o < 64 := by omega
theorem lt_RM {o : Nat} (h : o < 8) : 33 + 3 * o < 64 := by omega
theorem lt_GR {o : Nat} (h : o < 3) : 55 + 3 * o < 64 := by omega
theorem lt_GM {o : Nat} (h : o < 3) : 56 + 3 * o < 64 := by omega
theorem lt_GS {o : Nat} (h : o < 3) : 57 + 3 * o < 64 := by omega
theorem lt_TR {o : Nat} (h : o < 9) : 6 + o < 64 := by omega
theorem ps_0 : psh 0 = (3, 9) := by decide +kernel
theorem ps_1 : psh 1 = (9, 8) := by decide +kernel
theorem ps_2 : psh 2 = (8, 8) := by decide +kernel
theorem ps_3 : psh 3 = (7, 3) := by decide +kernel
theorem ps_4 : psh 4 = (5, 32) := by decide +kernel
theorem ps_5 : psh 5 = (10, 9) := by decide +kernel
theorem mr_of {M : pmM} {f : Nat → Nat → Option Nat} {a k b : Nat} (hm : M.2.1 = f) (h : f a k = some b) : M.2.1 a k = some b := by rw [hm]; exact h

theorem e_pcs {z : Nat} (h : pc = z) (kk : Ev l K G R n u w z lo st M) : Ev l K G R n u w pc lo st M := h ▸ kk
end EVB
/-! constants -/
theorem ic_0 : Int32.ofInt 0 = nI 0 := by decide
theorem ic_1 : Int32.ofInt 1 = nI 1 := by decide
theorem ic_2 : Int32.ofInt 2 = nI 2 := by decide
theorem ic_3 : Int32.ofInt 3 = nI 3 := by decide
theorem ic_4 : Int32.ofInt 4 = nI 4 := by decide
theorem ic_5 : Int32.ofInt 5 = nI 5 := by decide
theorem ic_m1 : Int32.ofInt (-1) = -1 := by decide
theorem bc_6 : (Int8.ofInt 6).toInt32 = nI 6 := by decide
theorem sc_6 : (Int16.ofInt 6).toInt32 = nI 6 := by decide
theorem bc_7 : (Int8.ofInt 7).toInt32 = nI 7 := by decide
theorem sc_7 : (Int16.ofInt 7).toInt32 = nI 7 := by decide
theorem bc_8 : (Int8.ofInt 8).toInt32 = nI 8 := by decide
theorem sc_8 : (Int16.ofInt 8).toInt32 = nI 8 := by decide
theorem bc_9 : (Int8.ofInt 9).toInt32 = nI 9 := by decide
theorem sc_9 : (Int16.ofInt 9).toInt32 = nI 9 := by decide
theorem bc_16 : (Int8.ofInt 16).toInt32 = nI 16 := by decide
theorem sc_16 : (Int16.ofInt 16).toInt32 = nI 16 := by decide
theorem bc_24 : (Int8.ofInt 24).toInt32 = nI 24 := by decide
theorem sc_24 : (Int16.ofInt 24).toInt32 = nI 24 := by decide
theorem bc_31 : (Int8.ofInt 31).toInt32 = nI 31 := by decide
theorem sc_31 : (Int16.ofInt 31).toInt32 = nI 31 := by decide
theorem bc_32 : (Int8.ofInt 32).toInt32 = nI 32 := by decide
theorem sc_32 : (Int16.ofInt 32).toInt32 = nI 32 := by decide
theorem bc_63 : (Int8.ofInt 63).toInt32 = nI 63 := by decide
theorem sc_63 : (Int16.ofInt 63).toInt32 = nI 63 := by decide
theorem bc_97 : (Int8.ofInt 97).toInt32 = nI 97 := by decide
theorem sc_97 : (Int16.ofInt 97).toInt32 = nI 97 := by decide
theorem bc_99 : (Int8.ofInt 99).toInt32 = nI 99 := by decide
theorem sc_99 : (Int16.ofInt 99).toInt32 = nI 99 := by decide
theorem bc_100 : (Int8.ofInt 100).toInt32 = nI 100 := by decide
theorem sc_100 : (Int16.ofInt 100).toInt32 = nI 100 := by decide
theorem bc_64 : (Int8.ofInt 64).toInt32 = nI 64 := by decide
theorem sc_64 : (Int16.ofInt 64).toInt32 = nI 64 := by decide
theorem sc_194 : (Int16.ofInt 194).toInt32 = nI 194 := by decide
theorem bc_96 : (Int8.ofInt 96).toInt32 = nI 96 := by decide
theorem sc_96 : (Int16.ofInt 96).toInt32 = nI 96 := by decide
theorem sc_129 : (Int16.ofInt 129).toInt32 = nI 129 := by decide
theorem sc_161 : (Int16.ofInt 161).toInt32 = nI 161 := by decide
theorem sc_255 : (Int16.ofInt 255).toInt32 = nI 255 := by decide
theorem sc_999 : (Int16.ofInt 999).toInt32 = nI 999 := by decide
theorem sc_1024 : (Int16.ofInt 1024).toInt32 = nI 1024 := by decide
theorem sc_193 : (Int16.ofInt 193).toInt32 = nI 193 := by decide
