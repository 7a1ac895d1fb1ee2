/-! ===== the model: its books ===== -/
def onM (M : pmM) (s : Nat) : Bool := lastF (M.1 76 s) (M.1 64 1)
def slB (M : pmM) (mo : Nat → Nat) (x p : Nat) : Bool := onM M (mo p) && hasb (stv M (M.1 74 (3 * mo p + x / 32))) (x % 32)
def acB (M : pmM) (mo : Nat → Nat) (p : Nat) : Bool := onM M (mo p) && !decide (M.1 73 (mo p) = 0)
def bkN (M : pmM) (mo : Nat → Nat) (n x : Nat) : Nat := if x = 96 then ifN (acB M mo) n else ifN (slB M mo x) n
theorem bkN_lt (M : pmM) (mo : Nat → Nat) {n : Nat} (h : n ≤ 8) (x : Nat) : bkN M mo n x < 256 := by
  unfold bkN
  split
  · exact ifN_256 _ h
  · exact ifN_256 _ h
def clM (M : pmM) (b n : Nat) : pmM := (fun a k => if a = 82 ∧ 97 * b ≤ k ∧ k < 97 * b + n then nI 0 else M.1 a k, M.2)
def lyU (M : pmM) (mo : Nat → Nat) (b n : Nat) : pmM := (fun a k => if a = 82 ∧ 97 * b ≤ k ∧ k < 97 * b + 97 then nI (bkN M mo n (k - 97 * b)) else M.1 a k, M.2)
def lyI (M : pmM) (mo : Nat → Nat) (b n j : Nat) : pmM := (fun a k => if a = 82 ∧ 97 * b ≤ k ∧ k < 97 * b + 97 then nI (bkN M mo (if k - 97 * b < j ∨ k - 97 * b = 96 then n + 1 else n) (k - 97 * b)) else M.1 a k, M.2)
theorem clM_0 (M : pmM) (b : Nat) : M = clM M b 0 := pm_ext fun a k => (if_neg (by omega)).symm
theorem clM_s (M : pmM) (b n : Nat) : (pm2 (clM M b n).1 82 (97 * b + n) (nI 0), M.2) = clM M b (n + 1) := by
  refine pm_ext fun a k => ?_
  show (if a = 82 ∧ k = 97 * b + n then nI 0 else if a = 82 ∧ 97 * b ≤ k ∧ k < 97 * b + n then nI 0 else M.1 a k) = if a = 82 ∧ 97 * b ≤ k ∧ k < 97 * b + (n + 1) then nI 0 else M.1 a k
  by_cases h1 : a = 82 ∧ k = 97 * b + n
  · rw [if_pos h1, if_pos (show a = 82 ∧ 97 * b ≤ k ∧ k < 97 * b + (n + 1) by omega)]
  · rw [if_neg h1]
    by_cases h2 : a = 82 ∧ 97 * b ≤ k ∧ k < 97 * b + n
    · rw [if_pos h2, if_pos (show a = 82 ∧ 97 * b ≤ k ∧ k < 97 * b + (n + 1) by omega)]
    · rw [if_neg h2, if_neg (show ¬ (a = 82 ∧ 97 * b ≤ k ∧ k < 97 * b + (n + 1)) by omega)]
theorem clM_97 (M : pmM) (mo : Nat → Nat) (b : Nat) : clM M b 97 = lyU M mo b 0 := by
  refine pm_ext fun a k => ?_
  show (if a = 82 ∧ 97 * b ≤ k ∧ k < 97 * b + 97 then nI 0 else M.1 a k) = if a = 82 ∧ 97 * b ≤ k ∧ k < 97 * b + 97 then nI (bkN M mo 0 (k - 97 * b)) else M.1 a k
  have e : bkN M mo 0 (k - 97 * b) = 0 := by unfold bkN; split <;> rfl
  rw [e]
theorem lyU_no {M : pmM} {mo : Nat → Nat} {b n a k : Nat} (h : a ≠ 82) : (lyU M mo b n).1 a k = M.1 a k := if_neg (fun q => h q.1)
theorem lyI_no {M : pmM} {mo : Nat → Nat} {b n j a k : Nat} (h : a ≠ 82) : (lyI M mo b n j).1 a k = M.1 a k := if_neg (fun q => h q.1)
theorem lyU_at {M : pmM} {mo : Nat → Nat} {b n x : Nat} (h : x < 97) : (lyU M mo b n).1 82 (97 * b + x) = nI (bkN M mo n x) := by
  show (if 82 = 82 ∧ 97 * b ≤ 97 * b + x ∧ 97 * b + x < 97 * b + 97 then _ else _) = _
  rw [if_pos ⟨rfl, by omega, by omega⟩, Nat.add_sub_cancel_left]
theorem lyU_82 {M : pmM} {mo : Nat → Nat} {b n k : Nat} (h : ¬ (97 * b ≤ k ∧ k < 97 * b + 97)) : (lyU M mo b n).1 82 k = M.1 82 k := if_neg (fun q => h q.2)
theorem bkN_off {M : pmM} {mo : Nat → Nat} {n : Nat} (h : onM M (mo n) = false) (x : Nat) : bkN M mo (n + 1) x = bkN M mo n x := by
  unfold bkN
  rw [ifN, ifN, show acB M mo n = false by unfold acB; rw [h, Bool.false_and], show slB M mo x n = false by unfold slB; rw [h, Bool.false_and]]
  rfl
theorem lyU_off {M : pmM} {mo : Nat → Nat} {b n : Nat} (h : onM M (mo n) = false) : lyU M mo b n = lyU M mo b (n + 1) := by
  refine pm_ext fun a k => ?_
  show _ = if a = 82 ∧ 97 * b ≤ k ∧ k < 97 * b + 97 then nI (bkN M mo (n + 1) (k - 97 * b)) else M.1 a k
  rw [bkN_off h]; rfl
theorem bit_or (b : Nat → Bool) {n : Nat} (h : n < 8) : nI (ifN b n) ||| nI (if b n = true then 2 ^ n else 0) = nI (ifN b (n + 1)) := by
  have h1 := ifN_lt b n
  have h3 : 2 ^ n < 256 := (show ∀ i, i < 8 → 2 ^ i < 256 by decide) n h
  rw [nI_or (by omega) (by split <;> omega), ifN]
  split
  · rw [or_pow h1]
  · rw [Nat.or_zero]
theorem bit_sh {c : Prop} [Decidable c] {p : Nat} (h : p < 8) : nI (if c then 1 else 0) <<< (nI p &&& 31) = nI (if c then 2 ^ p else 0) := by
  split
  · exact (show ∀ p, p < 8 → nI 1 <<< (nI p &&& 31) = nI (2 ^ p) by decide +kernel) p h
  · exact (show ∀ p, p < 8 → nI 0 <<< (nI p &&& 31) = nI 0 by decide +kernel) p h
theorem lyI_0 {M : pmM} {mo : Nat → Nat} {b n : Nat} {v : Int32} (hv : v = nI (ifN (acB M mo) (n + 1))) : (pm2 (lyU M mo b n).1 82 (97 * b + 96) v, M.2) = lyI M mo b n 0 := by
  refine pm_ext fun a k => ?_
  show (if a = 82 ∧ k = 97 * b + 96 then v else if a = 82 ∧ 97 * b ≤ k ∧ k < 97 * b + 97 then nI (bkN M mo n (k - 97 * b)) else M.1 a k) = if a = 82 ∧ 97 * b ≤ k ∧ k < 97 * b + 97 then nI (bkN M mo (if k - 97 * b < 0 ∨ k - 97 * b = 96 then n + 1 else n) (k - 97 * b)) else M.1 a k
  by_cases h1 : a = 82 ∧ k = 97 * b + 96
  · rw [if_pos h1, if_pos (show a = 82 ∧ 97 * b ≤ k ∧ k < 97 * b + 97 by omega), if_pos (show k - 97 * b < 0 ∨ k - 97 * b = 96 by omega), hv, bkN, if_pos (show k - 97 * b = 96 by omega)]
  · rw [if_neg h1]
    by_cases h2 : a = 82 ∧ 97 * b ≤ k ∧ k < 97 * b + 97
    · rw [if_pos h2, if_pos h2, if_neg (show ¬ (k - 97 * b < 0 ∨ k - 97 * b = 96) by omega)]
    · rw [if_neg h2, if_neg h2]
theorem lyI_s {M : pmM} {mo : Nat → Nat} {b n j : Nat} {v : Int32} (hj : j < 96) (hv : v = nI (ifN (slB M mo j) (n + 1))) : (pm2 (lyI M mo b n j).1 82 (97 * b + j) v, M.2) = lyI M mo b n (j + 1) := by
  refine pm_ext fun a k => ?_
  show (if a = 82 ∧ k = 97 * b + j then v else if a = 82 ∧ 97 * b ≤ k ∧ k < 97 * b + 97 then nI (bkN M mo (if k - 97 * b < j ∨ k - 97 * b = 96 then n + 1 else n) (k - 97 * b)) else M.1 a k) = if a = 82 ∧ 97 * b ≤ k ∧ k < 97 * b + 97 then nI (bkN M mo (if k - 97 * b < j + 1 ∨ k - 97 * b = 96 then n + 1 else n) (k - 97 * b)) else M.1 a k
  by_cases h1 : a = 82 ∧ k = 97 * b + j
  · have e : k - 97 * b = j := by omega
    rw [if_pos h1, if_pos (show a = 82 ∧ 97 * b ≤ k ∧ k < 97 * b + 97 by omega), if_pos (show k - 97 * b < j + 1 ∨ k - 97 * b = 96 by omega), hv, e, bkN, if_neg (show ¬ j = 96 by omega)]
  · rw [if_neg h1]
    by_cases h2 : a = 82 ∧ 97 * b ≤ k ∧ k < 97 * b + 97
    · rw [if_pos h2, if_pos h2]
      by_cases h3 : k - 97 * b < j ∨ k - 97 * b = 96
      · rw [if_pos h3, if_pos (show k - 97 * b < j + 1 ∨ k - 97 * b = 96 by omega)]
      · rw [if_neg h3, if_neg (show ¬ (k - 97 * b < j + 1 ∨ k - 97 * b = 96) by omega)]
    · rw [if_neg h2, if_neg h2]
theorem lyI_96 (M : pmM) (mo : Nat → Nat) (b n : Nat) : lyI M mo b n 96 = lyU M mo b (n + 1) := by
  refine pm_ext fun a k => ?_
  show (if a = 82 ∧ 97 * b ≤ k ∧ k < 97 * b + 97 then nI (bkN M mo (if k - 97 * b < 96 ∨ k - 97 * b = 96 then n + 1 else n) (k - 97 * b)) else M.1 a k) = if a = 82 ∧ 97 * b ≤ k ∧ k < 97 * b + 97 then nI (bkN M mo (n + 1) (k - 97 * b)) else M.1 a k
  by_cases h2 : a = 82 ∧ 97 * b ≤ k ∧ k < 97 * b + 97
  · rw [if_pos h2, if_pos h2, if_pos (show k - 97 * b < 96 ∨ k - 97 * b = 96 by omega)]
  · rw [if_neg h2, if_neg h2]
theorem lyI_at {M : pmM} {mo : Nat → Nat} {b n j : Nat} (hj : j < 96) : (lyI M mo b n j).1 82 (97 * b + j) = nI (ifN (slB M mo j) n) := by
  show (if 82 = 82 ∧ 97 * b ≤ 97 * b + j ∧ 97 * b + j < 97 * b + 97 then _ else _) = _
  rw [if_pos ⟨rfl, by omega, by omega⟩, Nat.add_sub_cancel_left, if_neg (by omega), bkN, if_neg (by omega)]
theorem lyI_stv {M : pmM} {mo : Nat → Nat} {b n j : Nat} (x : Int32) : stv (lyI M mo b n j) x = stv M x := by unfold stv; rw [lyI_no (by decide)]
/-- who decides, and whether it accepts -/
def dcB (m c : Nat) : Bool := decide (fo m < 8) && c.testBit (fo m)
theorem fst_eq {m : Nat} (h : m < 256) : nI m &&& -(nI m) = nI (if fo m < 8 then 2 ^ fo m else 0) := (show ∀ m, m < 256 → nI m &&& -(nI m) = nI (if fo m < 8 then 2 ^ fo m else 0) by decide +kernel) m h
theorem bit_and {f c : Nat} (hf : f < 8) (hc : c < 256) : nI (2 ^ f) &&& nI c = 0 ↔ c.testBit f = false := (show ∀ f, f < 8 → ∀ c, c < 256 → (nI (2 ^ f) &&& nI c = 0 ↔ c.testBit f = false) by decide +kernel) f hf c hc
theorem dcB_iff {m c : Nat} (hm : m < 256) (hc : c < 256) : (nI m &&& -(nI m)) &&& nI c = 0 ↔ dcB m c = false := by
  rw [fst_eq hm]
  unfold dcB
  by_cases h : fo m < 8
  · rw [if_pos h, decide_eq_true h, Bool.true_and, bit_and h hc]
  · rw [if_neg h, decide_eq_false h, Bool.false_and]
    constructor
    · intro _; rfl
    · intro _; rw [nI_and (by decide) (by omega), Nat.zero_and]; rfl
theorem dcB_0 {m c : Nat} (hm : m < 256) (hc : c < 256) (h : dcB m c = false) : (nI m &&& -(nI m)) &&& nI c = 0 := (dcB_iff hm hc).mpr h
theorem dcB_1 {m c : Nat} (hm : m < 256) (hc : c < 256) (h : dcB m c = true) : ¬ (nI m &&& -(nI m)) &&& nI c = 0 := fun q => by rw [(dcB_iff hm hc).mp q] at h; exact Bool.noConfusion h
theorem fo_iff {m p : Nat} (hm : m < 256) (hp : p < 8) : nI m &&& -(nI m) = nI 1 <<< (nI p &&& 31) ↔ fo m = p := (show ∀ m, m < 256 → ∀ p, p < 8 → (nI m &&& -(nI m) = nI 1 <<< (nI p &&& 31) ↔ fo m = p) by decide +kernel) m hm p hp
theorem hasb_nI {m p : Nat} (hm : m < 256) (hp : p < 8) : hasb (nI m) p = m.testBit p := (show ∀ m, m < 256 → ∀ p, p < 8 → hasb (nI m) p = m.testBit p by decide +kernel) m hm p hp
def at1 (bk : Nat → Nat) (b x : Nat) : Nat := bk (97 * b + x / 1024) &&& bk (97 * b + 32 + x / 32 % 32) &&& bk (97 * b + 64 + x % 32)
def BKn (N : Nat) (M : pmM) (bk : Nat → Nat) : Prop := ∀ k, k < N → M.1 82 k = nI (bk k) ∧ bk k < 256
def ulB (bk : Nat → Nat) (x : Nat) : Bool := xor (dcB (at1 bk 0 x) (bk 96)) (dcB (at1 bk 1 x) (bk 193))
theorem at1_lt {bk : Nat → Nat} {b x : Nat} (h : bk (97 * b + 64 + x % 32) < 256) : at1 bk b x < 256 := Nat.lt_of_le_of_lt Nat.and_le_right h
theorem and3 {a b c : Nat} (ha : a < 256) (hb : b < 256) (hc : c < 256) : nI (a &&& b) &&& nI c = nI (a &&& b &&& c) := nI_and (Nat.lt_of_le_of_lt Nat.and_le_left (by omega)) (by omega)

theorem m_lays {l : Launch} (hf : l.stackTraces = false) {M : pmM} {od : Nat → Nat} (hmr : M.2.1 = mrC od) {mo : Nat → Nat} {ln n b : Nat} (hps : psh ln = (5, 8)) (hlt : ln < 86) (hne : ln ≠ 82) (hn8 : n ≤ 8) (hb1 : b ≤ 1) (hln : ∀ p, p < n → M.1 ln p = nI (mo p) ∧ mo p < 8) (hfm : ∀ p f, p < n → f < 3 → fOk (M.1 74 (3 * mo p + f))) : Sp l kX4_lays 86 1 0 0 [.ref 64, .int (nI b), .ref ln, .int (nI n)] M (.inl none) (lyU M mo b n) := by
  refine sp_of hf (by decide +kernel) (Nat.le_of_ble_eq_true rfl) (by intro v hv; simp at hv; rcases hv with rfl | rfl | rfl | rfl <;> rfl) rfl ?_
  refine e_mem (clM_0 M b) ?_
  refine e_bipush (v := nI 97) dX4_lays_0 rfl bc_97 ?_
  refine e_iload_1 dX4_lays_2 rfl ?_
  refine e_imul dX4_lays_3 rfl ?_
  refine e_topi (nI (97 * b)) (pk_mul _ _) ?_
  refine e_istore_4 dX4_lays_4 rfl (Nat.le_of_ble_eq_true rfl) rfl ?_
  refine e_iconst (v := nI 0) dX4_lays_6 rfl ic_0 ?_
  refine e_istore_5 dX4_lays_7 rfl (Nat.le_of_ble_eq_true rfl) rfl ?_
  refine loop_up (P := fun x => Ev l kX4_lays (gM 86 0 0 (.inl none) (lyU M mo b n)) (rmd 1 0 0) 86 0 0 9 [some (.ref 64), some (.int (nI b)), some (.ref ln), some (.int (nI n)), some (.int (nI (97 * b))), some (.int (nI x)), none, none] [] (clM M b x)) ?_ (fun x hx ih => ?_) 0 (Nat.zero_le 97)
  · refine e_iload_5 dX4_lays_9 rfl ?_
    refine e_bipush (v := nI 97) dX4_lays_11 rfl bc_97 ?_
    refine e_nc_ge_t (tgt := 33) dX4_lays_13 (by decide) (by omega) (by omega) (Nat.le_refl _) ?_
    refine e_iconst (v := nI 0) dX4_lays_33 rfl ic_0 ?_
    refine e_istore_5 dX4_lays_34 rfl (Nat.le_of_ble_eq_true rfl) rfl ?_
    refine e_mem (clM_97 M mo b) ?_
    refine loop_up (P := fun p => Ev l kX4_lays (gM 86 0 0 (.inl none) (lyU M mo b n)) (rmd 1 0 0) 86 0 0 36 [some (.ref 64), some (.int (nI b)), some (.ref ln), some (.int (nI n)), some (.int (nI (97 * b))), some (.int (nI p)), none, none] [] (lyU M mo b p)) ?_ (fun p hp ih => ?_) 0 (Nat.zero_le n)
    · refine e_iload_5 dX4_lays_36 rfl ?_
      refine e_iload_3 dX4_lays_38 rfl ?_
      refine e_nc_ge_t (tgt := 145) dX4_lays_39 (by decide) (by omega) (by omega) (Nat.le_refl _) ?_
      exact e_vret dX4_lays_145 rfl (Nat.le_of_ble_eq_true rfl) (Nat.le_of_ble_eq_true rfl) rfl
    · have hs := (hln p hp).2
      cases ho : onM M (mo p) with
      | false =>
        rw [← lyU_off ho] at ih
        refine e_iload_5 dX4_lays_36 rfl ?_
        refine e_iload_3 dX4_lays_38 rfl ?_
        refine e_nc_ge_f dX4_lays_39 rfl ⟨145, by decide⟩ (by omega) (by omega) hp ?_
        refine e_aload_2 dX4_lays_42 rfl ?_
        refine e_iload_5 dX4_lays_43 rfl ?_
        refine e_iald dX4_lays_45 rfl hps hlt rfl (by omega) ?_
        refine e_topi (nI (mo p)) ((lyU_no hne).trans (hln p hp).1) ?_
        refine e_istore_6 dX4_lays_46 rfl (Nat.le_of_ble_eq_true rfl) rfl ?_
        refine e_aload_0 dX4_lays_48 rfl ?_
        refine e_iload_6 dX4_lays_49 rfl ?_
        refine e_callV dX4_lays_51 rfl csX4_113 (m_isOn (M := lyU M mo b p) hf hmr hs) rfl rfl ps_64 (by decide) (by decide) ⟨Nat.le_of_ble_eq_true rfl, Nat.le_of_ble_eq_true rfl⟩ ⟨Nat.le_of_ble_eq_true rfl, Nat.le_of_ble_eq_true rfl⟩ rfl rfl (Nat.le_of_ble_eq_true rfl) ?_
        refine e_topi (bI (onM M (mo p))) (by unfold onM; rw [lyU_no (by decide), lyU_no (by decide)]) ?_
        refine e_if_eq_t (tgt := 139) dX4_lays_54 (by decide) (bI0 ho) ?_
        refine e_iinc_5 (v := nI (p + 1)) dX4_lays_139 rfl (Nat.le_of_ble_eq_true rfl) rfl (nI_1 p) ?_
        refine e_goto (tgt := 36) dX4_lays_142 (by decide) ?_
        refine e_weak (weak_c (weak_c (weak_c (weak_c (weak_c (weak_c (weak_n weak_nil))))))) ?_
        exact ih
      | true =>
        have H : ∀ x, x ≤ 96 → Ev l kX4_lays (gM 86 0 0 (.inl none) (lyU M mo b n)) (rmd 1 0 0) 86 0 0 91 [some (.ref 64), some (.int (nI b)), some (.ref ln), some (.int (nI n)), some (.int (nI (97 * b))), some (.int (nI p)), some (.int (nI (mo p))), some (.int (nI x))] [] (lyI M mo b p x) := by
          refine loop_up ?_ (fun x hx ih2 => ?_)
          · refine e_iload_7 dX4_lays_91 rfl ?_
            refine e_bipush (v := nI 96) dX4_lays_93 rfl bc_96 ?_
            refine e_nc_ge_t (tgt := 139) dX4_lays_95 (by decide) (by omega) (by omega) (Nat.le_refl _) ?_
            refine e_iinc_5 (v := nI (p + 1)) dX4_lays_139 rfl (Nat.le_of_ble_eq_true rfl) rfl (nI_1 p) ?_
            refine e_goto (tgt := 36) dX4_lays_142 (by decide) ?_
            refine e_weak (weak_c (weak_c (weak_c (weak_c (weak_c (weak_c (weak_n (weak_n weak_nil)))))))) ?_
            exact e_mem (lyI_96 M mo b p) ih
          · have hfx : fOk ((lyI M mo b p x).1 74 (3 * mo p + x / 32)) := by rw [lyI_no (by decide)]; exact hfm p _ hp (by omega)
            have es : slB M mo x p = hasb (stv M (M.1 74 (3 * mo p + x / 32))) (x % 32) := by unfold slB; rw [ho, Bool.true_and]
            refine e_iload_7 dX4_lays_91 rfl ?_
            refine e_bipush (v := nI 96) dX4_lays_93 rfl bc_96 ?_
            refine e_nc_ge_f dX4_lays_95 rfl ⟨139, by decide⟩ (by omega) (by omega) hx ?_
            refine e_aload_0 dX4_lays_98 rfl ?_
            refine e_getR dX4_lays_99 rfl lkX4_62 rfl ps_64 (by decide) (by decide) (mr_of hmr rfl) ?_
            refine e_iload_4 dX4_lays_102 rfl ?_
            refine e_iload_7 dX4_lays_104 rfl ?_
            refine e_iadd dX4_lays_106 rfl ?_
            refine e_topi (nI (97 * b + x)) (nI_add _ _) ?_
            refine e_dup2 dX4_lays_107 rfl rfl rfl ?_
            refine e_iald dX4_lays_108 rfl ps_82 (by decide) rfl (by omega) ?_
            refine e_topi (nI (ifN (slB M mo x) p)) (lyI_at hx) ?_
            refine e_aload_0 dX4_lays_109 rfl ?_
            refine e_iload_6 dX4_lays_110 rfl ?_
            refine e_iload_7 dX4_lays_112 rfl ?_
            refine e_bipush (v := nI 32) dX4_lays_114 rfl bc_32 ?_
            refine e_idiv dX4_lays_116 rfl (by decide) ?_
            refine e_topi (nI (x / 32)) (pk_div (by omega) (by decide) (by decide)) ?_
            refine e_callV dX4_lays_117 rfl csX4_116 (m_setOf (M := lyI M mo b p x) hf hmr hs (show x / 32 < 3 by omega) hfx) rfl rfl ps_64 (by decide) (by decide) ⟨Nat.le_of_ble_eq_true rfl, Nat.le_of_ble_eq_true rfl⟩ ⟨Nat.le_of_ble_eq_true rfl, Nat.le_of_ble_eq_true rfl⟩ rfl rfl (Nat.le_of_ble_eq_true rfl) ?_
            refine e_topi (stv M (M.1 74 (3 * mo p + x / 32))) (by rw [lyI_stv, lyI_no (by decide)]) ?_
            refine e_iload_7 dX4_lays_120 rfl ?_
            refine e_bipush (v := nI 32) dX4_lays_122 rfl bc_32 ?_
            refine e_irem dX4_lays_124 rfl (by decide) ?_
            refine e_topi (nI (x % 32)) (pk_rem (by omega) (by decide) (by decide)) ?_
            refine e_ishr dX4_lays_125 rfl ?_
            refine e_iconst (v := nI 1) dX4_lays_126 rfl ic_1 ?_
            refine e_iand dX4_lays_127 rfl ?_
            refine e_topi (nI (if hasb (stv M (M.1 74 (3 * mo p + x / 32))) (x % 32) = true then 1 else 0)) (shr_and _ (by omega)) ?_
            refine e_iload_5 dX4_lays_128 rfl ?_
            refine e_ishl dX4_lays_130 rfl ?_
            refine e_topi (nI (if hasb (stv M (M.1 74 (3 * mo p + x / 32))) (x % 32) = true then 2 ^ p else 0)) (bit_sh (by omega)) ?_
            refine e_ior dX4_lays_131 rfl ?_
            refine e_topi (nI (ifN (slB M mo x) (p + 1))) (by rw [← es]; exact bit_or _ (by omega)) ?_
            refine e_iast dX4_lays_132 rfl ps_82 (by decide) rfl (by omega) ?_
            refine e_iinc_7 (v := nI (x + 1)) dX4_lays_133 rfl (Nat.le_of_ble_eq_true rfl) rfl (nI_1 x) ?_
            refine e_goto (tgt := 91) dX4_lays_136 (by decide) ?_
            exact e_mem (lyI_s hx rfl) ih2
        refine e_iload_5 dX4_lays_36 rfl ?_
        refine e_iload_3 dX4_lays_38 rfl ?_
        refine e_nc_ge_f dX4_lays_39 rfl ⟨145, by decide⟩ (by omega) (by omega) hp ?_
        refine e_aload_2 dX4_lays_42 rfl ?_
        refine e_iload_5 dX4_lays_43 rfl ?_
        refine e_iald dX4_lays_45 rfl hps hlt rfl (by omega) ?_
        refine e_topi (nI (mo p)) ((lyU_no hne).trans (hln p hp).1) ?_
        refine e_istore_6 dX4_lays_46 rfl (Nat.le_of_ble_eq_true rfl) rfl ?_
        refine e_aload_0 dX4_lays_48 rfl ?_
        refine e_iload_6 dX4_lays_49 rfl ?_
        refine e_callV dX4_lays_51 rfl csX4_113 (m_isOn (M := lyU M mo b p) hf hmr hs) rfl rfl ps_64 (by decide) (by decide) ⟨Nat.le_of_ble_eq_true rfl, Nat.le_of_ble_eq_true rfl⟩ ⟨Nat.le_of_ble_eq_true rfl, Nat.le_of_ble_eq_true rfl⟩ rfl rfl (Nat.le_of_ble_eq_true rfl) ?_
        refine e_topi (bI (onM M (mo p))) (by unfold onM; rw [lyU_no (by decide), lyU_no (by decide)]) ?_
        refine e_if_eq_f dX4_lays_54 rfl ⟨139, by decide⟩ (bI1 ho) ?_
        refine e_aload_0 dX4_lays_57 rfl ?_
        refine e_getR dX4_lays_58 rfl lkX4_62 rfl ps_64 (by decide) (by decide) (mr_of hmr rfl) ?_
        refine e_iload_4 dX4_lays_61 rfl ?_
        refine e_bipush (v := nI 96) dX4_lays_63 rfl bc_96 ?_
        refine e_iadd dX4_lays_65 rfl ?_
        refine e_topi (nI (97 * b + 96)) (nI_add _ _) ?_
        by_cases hz : M.1 73 (mo p) = 0
        · refine e_dup2 dX4_lays_66 rfl rfl rfl ?_
          refine e_iald dX4_lays_67 rfl ps_82 (by decide) rfl (by omega) ?_
          refine e_topi (nI (ifN (acB M mo) p)) ((lyU_at (x := 96) (by decide)).trans (by rw [bkN, if_pos rfl])) ?_
          refine e_aload_0 dX4_lays_68 rfl ?_
          refine e_getR dX4_lays_69 rfl lkX4_35 rfl ps_64 (by decide) (by decide) (mr_of hmr rfl) ?_
          refine e_iload_6 dX4_lays_72 rfl ?_
          refine e_zald dX4_lays_74 rfl ps_73 (by decide) rfl (by omega) ?_
          refine e_if_eq_t (tgt := 85) dX4_lays_75 (by decide) ((lyU_no (by decide)).trans hz) ?_
          refine e_iconst (v := nI 0) dX4_lays_85 rfl ic_0 ?_
          refine e_ior dX4_lays_86 rfl ?_
          refine e_topi (nI (ifN (acB M mo) (p + 1))) (by rw [or_0, ifN, if_neg (by unfold acB; rw [decide_eq_true hz, Bool.not_true, Bool.and_false]; decide)]) ?_
          refine e_iast dX4_lays_87 rfl ps_82 (by decide) rfl (by omega) ?_
          refine e_iconst (v := nI 0) dX4_lays_88 rfl ic_0 ?_
          refine e_istore_7 dX4_lays_89 rfl (Nat.le_of_ble_eq_true rfl) rfl ?_
          exact e_mem (lyI_0 rfl) (H 0 (Nat.zero_le _))
        · refine e_dup2 dX4_lays_66 rfl rfl rfl ?_
          refine e_iald dX4_lays_67 rfl ps_82 (by decide) rfl (by omega) ?_
          refine e_topi (nI (ifN (acB M mo) p)) ((lyU_at (x := 96) (by decide)).trans (by rw [bkN, if_pos rfl])) ?_
          refine e_aload_0 dX4_lays_68 rfl ?_
          refine e_getR dX4_lays_69 rfl lkX4_35 rfl ps_64 (by decide) (by decide) (mr_of hmr rfl) ?_
          refine e_iload_6 dX4_lays_72 rfl ?_
          refine e_zald dX4_lays_74 rfl ps_73 (by decide) rfl (by omega) ?_
          refine e_if_eq_f dX4_lays_75 rfl ⟨85, by decide⟩ (fun z => hz ((lyU_no (by decide)).symm.trans z)) ?_
          refine e_iconst (v := nI 1) dX4_lays_78 rfl ic_1 ?_
          refine e_iload_5 dX4_lays_79 rfl ?_
          refine e_ishl dX4_lays_81 rfl ?_
          refine e_goto (tgt := 86) dX4_lays_82 (by decide) ?_
          refine e_ior dX4_lays_86 rfl ?_
          refine e_topi (nI (ifN (acB M mo) (p + 1))) (by rw [ifN_or (by omega) (ifN_lt _ _), ifN, if_pos (by unfold acB; rw [ho, decide_eq_false hz]; rfl)]) ?_
          refine e_iast dX4_lays_87 rfl ps_82 (by decide) rfl (by omega) ?_
          refine e_iconst (v := nI 0) dX4_lays_88 rfl ic_0 ?_
          refine e_istore_7 dX4_lays_89 rfl (Nat.le_of_ble_eq_true rfl) rfl ?_
          exact e_mem (lyI_0 rfl) (H 0 (Nat.zero_le _))
  · refine e_iload_5 dX4_lays_9 rfl ?_
    refine e_bipush (v := nI 97) dX4_lays_11 rfl bc_97 ?_
    refine e_nc_ge_f dX4_lays_13 rfl ⟨33, by decide⟩ (by omega) (by omega) hx ?_
    refine e_aload_0 dX4_lays_16 rfl ?_
    refine e_getR dX4_lays_17 rfl lkX4_62 rfl ps_64 (by decide) (by decide) (mr_of hmr rfl) ?_
    refine e_iload_4 dX4_lays_20 rfl ?_
    refine e_iload_5 dX4_lays_22 rfl ?_
    refine e_iadd dX4_lays_24 rfl ?_
    refine e_topi (nI (97 * b + x)) (nI_add _ _) ?_
    refine e_iconst (v := nI 0) dX4_lays_25 rfl ic_0 ?_
    refine e_iast dX4_lays_26 rfl ps_82 (by decide) rfl (by omega) ?_
    refine e_iinc_5 (v := nI (x + 1)) dX4_lays_27 rfl (Nat.le_of_ble_eq_true rfl) rfl (nI_1 x) ?_
    refine e_goto (tgt := 9) dX4_lays_30 (by decide) ?_
    exact e_mem (clM_s M b x) ih
def lnM (M : pmM) (mo : Nat → Nat) (rc : Nat) (S : Nat → Int32) : pmM := lyU (setM M S) mo 0 rc
theorem m_laysNow {l : Launch} (hf : l.stackTraces = false) {M : pmM} {od : Nat → Nat} (hmr : M.2.1 = mrC od) {oc : Nat} {rg mc : Nat → Nat} {lo hi mb : Nat → Nat → Nat} (hO : MO M oc rg mc lo hi mb) {rc : Nat} (hmc : M.1 64 8 = nI rc) (h8 : rc ≤ 8) {mo : Nat → Nat} (hmo : ∀ p, p < rc → M.1 70 p = nI (mo p) ∧ mo p < 8) (hfm : ∀ p f, p < rc → f < 3 → fOk (M.1 74 (3 * mo p + f))) : Sp l kX4_laysNow 86 2 0 0 [.ref 64] M (.inl (some (.int (nI 0)))) (lnM M mo rc (spS oc rg mc lo hi mb (-1) (nI 0) (M.1 81))) := by
  refine sp_of hf (by decide +kernel) (Nat.le_of_ble_eq_true rfl) (by intro v hv; simp at hv; subst hv; rfl) rfl ?_
  refine e_aload_0 dX4_laysNow_0 rfl ?_
  refine e_iconst (v := -1) dX4_laysNow_1 rfl ic_m1 ?_
  refine e_iconst (v := nI 0) dX4_laysNow_2 rfl ic_0 ?_
  refine e_callV dX4_laysNow_3 rfl csX4_103 (m_spreads hf hmr hO) rfl rfl ps_64 (by decide) (by decide) ⟨Nat.le_of_ble_eq_true rfl, Nat.le_of_ble_eq_true rfl⟩ ⟨Nat.le_of_ble_eq_true rfl, Nat.le_of_ble_eq_true rfl⟩ rfl rfl (Nat.le_of_ble_eq_true rfl) ?_
  generalize (spS oc rg mc lo hi mb (-1) (nI 0) (M.1 81)) = S
  refine e_aload_0 dX4_laysNow_6 rfl ?_
  refine e_iconst (v := nI 0) dX4_laysNow_7 rfl ic_0 ?_
  refine e_aload_0 dX4_laysNow_8 rfl ?_
  refine e_getR dX4_laysNow_9 rfl lkX4_25 rfl ps_64 (by decide) (by decide) (mr_of hmr rfl) ?_
  refine e_aload_0 dX4_laysNow_12 rfl ?_
  refine e_getI dX4_laysNow_13 rfl lkX4_79 rfl ps_64 (by decide) (by decide) ?_
  refine e_topi (nI rc) ((setM_no (by decide)).trans hmc) ?_
  refine e_callV dX4_laysNow_16 rfl csX4_119 (m_lays (M := setM M S) (mo := mo) (n := rc) (b := 0) hf hmr ps_70 (by decide) (by decide) h8 (by decide) (fun p hp => by rw [setM_no (by decide)]; exact hmo p hp) (fun p f h1 h2 => by rw [setM_no (by decide)]; exact hfm p f h1 h2)) rfl rfl ps_64 (by decide) (by decide) ⟨Nat.le_of_ble_eq_true rfl, Nat.le_of_ble_eq_true rfl⟩ ⟨Nat.le_of_ble_eq_true rfl, Nat.le_of_ble_eq_true rfl⟩ rfl rfl (Nat.le_of_ble_eq_true rfl) ?_
  refine e_iconst (v := nI 0) dX4_laysNow_19 rfl ic_0 ?_
  exact e_iret dX4_laysNow_20 rfl rfl (Nat.le_of_ble_eq_true rfl) (Nat.le_of_ble_eq_true rfl) rfl rfl
theorem m_unlike {l : Launch} (hf : l.stackTraces = false) {M : pmM} {od : Nat → Nat} (hmr : M.2.1 = mrC od) {bk : Nat → Nat} (hbk : BKn 194 M bk) : Sp l kX4_unlike 86 1 0 0 [.ref 64] M (.inl (some (.int (nI (cntN (ulB bk) 32768))))) M := by
  refine sp_of hf (by decide +kernel) (Nat.le_of_ble_eq_true rfl) (by intro v hv; simp at hv; subst hv; rfl) rfl ?_
  refine e_iconst (v := nI 0) dX4_unlike_0 rfl ic_0 ?_
  refine e_istore_1 dX4_unlike_1 rfl (Nat.le_of_ble_eq_true rfl) rfl ?_
  refine e_iconst (v := nI 0) dX4_unlike_2 rfl ic_0 ?_
  refine e_istore_2 dX4_unlike_3 rfl (Nat.le_of_ble_eq_true rfl) rfl ?_
  refine loop_up (P := fun x => Ev l kX4_unlike (gM 86 0 0 (.inl (some (.int (nI (cntN (ulB bk) 32768))))) M) (rmd 1 0 0) 86 0 0 4 [some (.ref 64), some (.int (nI (cntN (ulB bk) x))), some (.int (nI x)), none, none, none] [] M) ?_ (fun x hx ih => ?_) 0 (Nat.zero_le 32768)
  · refine e_iload_2 dX4_unlike_4 rfl ?_
    refine e_ldc dX4_unlike_5 rfl kcX4_123 ?_
    refine e_topi (nI 32768) (by decide) ?_
    refine e_nc_ge_t (tgt := 159) dX4_unlike_7 (by decide) (by omega) (by omega) (Nat.le_refl _) ?_
    refine e_iload_1 dX4_unlike_159 rfl ?_
    exact e_iret dX4_unlike_160 rfl rfl (Nat.le_of_ble_eq_true rfl) (Nat.le_of_ble_eq_true rfl) rfl rfl
  · obtain ⟨a1, a1l⟩ := hbk (x / 1024) (by omega)
    obtain ⟨a2, a2l⟩ := hbk (32 + (x / 32) % 32) (by omega)
    obtain ⟨a3, a3l⟩ := hbk (64 + x % 32) (by omega)
    obtain ⟨b1, b1l⟩ := hbk (97 + x / 1024) (by omega)
    obtain ⟨b2, b2l⟩ := hbk (129 + (x / 32) % 32) (by omega)
    obtain ⟨b3, b3l⟩ := hbk (161 + x % 32) (by omega)
    obtain ⟨c1, c1l⟩ := hbk (96) (by omega)
    obtain ⟨c2, c2l⟩ := hbk (193) (by omega)
    have e1 : at1 bk 0 x = (bk (x / 1024) &&& bk (32 + (x / 32) % 32) &&& bk (64 + x % 32)) := by unfold at1; rw [show 97 * 0 + x / 1024 = x / 1024 by omega, show 97 * 0 + 32 + x / 32 % 32 = 32 + x / 32 % 32 by omega, show 97 * 0 + 64 + x % 32 = 64 + x % 32 by omega]
    have e2 : at1 bk 1 x = (bk (97 + x / 1024) &&& bk (129 + (x / 32) % 32) &&& bk (161 + x % 32)) := by unfold at1; rw [show 97 * 1 + x / 1024 = 97 + x / 1024 by omega, show 97 * 1 + 32 + x / 32 % 32 = 129 + x / 32 % 32 by omega, show 97 * 1 + 64 + x % 32 = 161 + x % 32 by omega]
    have l1 : (bk (x / 1024) &&& bk (32 + (x / 32) % 32) &&& bk (64 + x % 32)) < 256 := Nat.lt_of_le_of_lt Nat.and_le_right a3l
    have l2 : (bk (97 + x / 1024) &&& bk (129 + (x / 32) % 32) &&& bk (161 + x % 32)) < 256 := Nat.lt_of_le_of_lt Nat.and_le_right b3l
    cases d1 : dcB (bk (x / 1024) &&& bk (32 + (x / 32) % 32) &&& bk (64 + x % 32)) (bk 96) with
    | true =>
      cases d2 : dcB (bk (97 + x / 1024) &&& bk (129 + (x / 32) % 32) &&& bk (161 + x % 32)) (bk 193) with
      | true =>
        refine e_iload_2 dX4_unlike_4 rfl ?_
        refine e_ldc dX4_unlike_5 rfl kcX4_123 ?_
        refine e_topi (nI 32768) (by decide) ?_
        refine e_nc_ge_f dX4_unlike_7 rfl ⟨159, by decide⟩ (by omega) (by omega) hx ?_
        refine e_aload_0 dX4_unlike_10 rfl ?_
        refine e_getR dX4_unlike_11 rfl lkX4_62 rfl ps_64 (by decide) (by decide) (mr_of hmr rfl) ?_
        refine e_iload_2 dX4_unlike_14 rfl ?_
        refine e_sipush (v := nI 1024) dX4_unlike_15 rfl sc_1024 ?_
        refine e_idiv dX4_unlike_18 rfl (by decide) ?_
        refine e_topi (nI (x / 1024)) (pk_div (by omega) (by decide) (by decide)) ?_
        refine e_iald dX4_unlike_19 rfl ps_82 (by decide) rfl (by omega) ?_
        refine e_topi (nI (bk (x / 1024))) a1 ?_
        refine e_aload_0 dX4_unlike_20 rfl ?_
        refine e_getR dX4_unlike_21 rfl lkX4_62 rfl ps_64 (by decide) (by decide) (mr_of hmr rfl) ?_
        refine e_bipush (v := nI 32) dX4_unlike_24 rfl bc_32 ?_
        refine e_iload_2 dX4_unlike_26 rfl ?_
        refine e_bipush (v := nI 32) dX4_unlike_27 rfl bc_32 ?_
        refine e_idiv dX4_unlike_29 rfl (by decide) ?_
        refine e_topi (nI (x / 32)) (pk_div (by omega) (by decide) (by decide)) ?_
        refine e_bipush (v := nI 32) dX4_unlike_30 rfl bc_32 ?_
        refine e_irem dX4_unlike_32 rfl (by decide) ?_
        refine e_topi (nI ((x / 32) % 32)) (pk_rem (by omega) (by decide) (by decide)) ?_
        refine e_iadd dX4_unlike_33 rfl ?_
        refine e_topi (nI (32 + (x / 32) % 32)) (nI_add _ _) ?_
        refine e_iald dX4_unlike_34 rfl ps_82 (by decide) rfl (by omega) ?_
        refine e_topi (nI (bk (32 + (x / 32) % 32))) a2 ?_
        refine e_iand dX4_unlike_35 rfl ?_
        refine e_topi (nI (bk (x / 1024) &&& bk (32 + (x / 32) % 32))) (nI_and (by omega) (by omega)) ?_
        refine e_aload_0 dX4_unlike_36 rfl ?_
        refine e_getR dX4_unlike_37 rfl lkX4_62 rfl ps_64 (by decide) (by decide) (mr_of hmr rfl) ?_
        refine e_bipush (v := nI 64) dX4_unlike_40 rfl bc_64 ?_
        refine e_iload_2 dX4_unlike_42 rfl ?_
        refine e_bipush (v := nI 32) dX4_unlike_43 rfl bc_32 ?_
        refine e_irem dX4_unlike_45 rfl (by decide) ?_
        refine e_topi (nI (x % 32)) (pk_rem (by omega) (by decide) (by decide)) ?_
        refine e_iadd dX4_unlike_46 rfl ?_
        refine e_topi (nI (64 + x % 32)) (nI_add _ _) ?_
        refine e_iald dX4_unlike_47 rfl ps_82 (by decide) rfl (by omega) ?_
        refine e_topi (nI (bk (64 + x % 32))) a3 ?_
        refine e_iand dX4_unlike_48 rfl ?_
        refine e_topi (nI (bk (x / 1024) &&& bk (32 + (x / 32) % 32) &&& bk (64 + x % 32))) (and3 a1l a2l a3l) ?_
        refine e_istore_3 dX4_unlike_49 rfl (Nat.le_of_ble_eq_true rfl) rfl ?_
        refine e_aload_0 dX4_unlike_50 rfl ?_
        refine e_getR dX4_unlike_51 rfl lkX4_62 rfl ps_64 (by decide) (by decide) (mr_of hmr rfl) ?_
        refine e_bipush (v := nI 97) dX4_unlike_54 rfl bc_97 ?_
        refine e_iload_2 dX4_unlike_56 rfl ?_
        refine e_sipush (v := nI 1024) dX4_unlike_57 rfl sc_1024 ?_
        refine e_idiv dX4_unlike_60 rfl (by decide) ?_
        refine e_topi (nI (x / 1024)) (pk_div (by omega) (by decide) (by decide)) ?_
        refine e_iadd dX4_unlike_61 rfl ?_
        refine e_topi (nI (97 + x / 1024)) (nI_add _ _) ?_
        refine e_iald dX4_unlike_62 rfl ps_82 (by decide) rfl (by omega) ?_
        refine e_topi (nI (bk (97 + x / 1024))) b1 ?_
        refine e_aload_0 dX4_unlike_63 rfl ?_
        refine e_getR dX4_unlike_64 rfl lkX4_62 rfl ps_64 (by decide) (by decide) (mr_of hmr rfl) ?_
        refine e_sipush (v := nI 129) dX4_unlike_67 rfl sc_129 ?_
        refine e_iload_2 dX4_unlike_70 rfl ?_
        refine e_bipush (v := nI 32) dX4_unlike_71 rfl bc_32 ?_
        refine e_idiv dX4_unlike_73 rfl (by decide) ?_
        refine e_topi (nI (x / 32)) (pk_div (by omega) (by decide) (by decide)) ?_
        refine e_bipush (v := nI 32) dX4_unlike_74 rfl bc_32 ?_
        refine e_irem dX4_unlike_76 rfl (by decide) ?_
        refine e_topi (nI ((x / 32) % 32)) (pk_rem (by omega) (by decide) (by decide)) ?_
        refine e_iadd dX4_unlike_77 rfl ?_
        refine e_topi (nI (129 + (x / 32) % 32)) (nI_add _ _) ?_
        refine e_iald dX4_unlike_78 rfl ps_82 (by decide) rfl (by omega) ?_
        refine e_topi (nI (bk (129 + (x / 32) % 32))) b2 ?_
        refine e_iand dX4_unlike_79 rfl ?_
        refine e_topi (nI (bk (97 + x / 1024) &&& bk (129 + (x / 32) % 32))) (nI_and (by omega) (by omega)) ?_
        refine e_aload_0 dX4_unlike_80 rfl ?_
        refine e_getR dX4_unlike_81 rfl lkX4_62 rfl ps_64 (by decide) (by decide) (mr_of hmr rfl) ?_
        refine e_sipush (v := nI 161) dX4_unlike_84 rfl sc_161 ?_
        refine e_iload_2 dX4_unlike_87 rfl ?_
        refine e_bipush (v := nI 32) dX4_unlike_88 rfl bc_32 ?_
        refine e_irem dX4_unlike_90 rfl (by decide) ?_
        refine e_topi (nI (x % 32)) (pk_rem (by omega) (by decide) (by decide)) ?_
        refine e_iadd dX4_unlike_91 rfl ?_
        refine e_topi (nI (161 + x % 32)) (nI_add _ _) ?_
        refine e_iald dX4_unlike_92 rfl ps_82 (by decide) rfl (by omega) ?_
        refine e_topi (nI (bk (161 + x % 32))) b3 ?_
        refine e_iand dX4_unlike_93 rfl ?_
        refine e_topi (nI (bk (97 + x / 1024) &&& bk (129 + (x / 32) % 32) &&& bk (161 + x % 32))) (and3 b1l b2l b3l) ?_
        refine e_istore_4 dX4_unlike_94 rfl (Nat.le_of_ble_eq_true rfl) rfl ?_
        refine e_iload_3 dX4_unlike_96 rfl ?_
        refine e_callS dX4_unlike_97 rfl csX4_124 (m_first hf) rfl rfl ⟨Nat.le_of_ble_eq_true rfl, Nat.le_of_ble_eq_true rfl⟩ ⟨Nat.le_of_ble_eq_true rfl, Nat.le_of_ble_eq_true rfl⟩ rfl rfl (Nat.le_of_ble_eq_true rfl) ?_
        refine e_aload_0 dX4_unlike_100 rfl ?_
        refine e_getR dX4_unlike_101 rfl lkX4_62 rfl ps_64 (by decide) (by decide) (mr_of hmr rfl) ?_
        refine e_bipush (v := nI 96) dX4_unlike_104 rfl bc_96 ?_
        refine e_iald dX4_unlike_106 rfl ps_82 (by decide) rfl (by omega) ?_
        refine e_topi (nI (bk (96))) c1 ?_
        refine e_iand dX4_unlike_107 rfl ?_
        refine e_if_eq_f dX4_unlike_108 rfl ⟨115, by decide⟩ (dcB_1 l1 c1l d1) ?_
        refine e_iconst (v := nI 1) dX4_unlike_111 rfl ic_1 ?_
        refine e_goto (tgt := 116) dX4_unlike_112 (by decide) ?_
        refine e_istore_5 dX4_unlike_116 rfl (Nat.le_of_ble_eq_true rfl) rfl ?_
        refine e_iload_1 dX4_unlike_118 rfl ?_
        refine e_iload_5 dX4_unlike_119 rfl ?_
        refine e_iload_4 dX4_unlike_121 rfl ?_
        refine e_callS dX4_unlike_123 rfl csX4_124 (m_first hf) rfl rfl ⟨Nat.le_of_ble_eq_true rfl, Nat.le_of_ble_eq_true rfl⟩ ⟨Nat.le_of_ble_eq_true rfl, Nat.le_of_ble_eq_true rfl⟩ rfl rfl (Nat.le_of_ble_eq_true rfl) ?_
        refine e_aload_0 dX4_unlike_126 rfl ?_
        refine e_getR dX4_unlike_127 rfl lkX4_62 rfl ps_64 (by decide) (by decide) (mr_of hmr rfl) ?_
        refine e_sipush (v := nI 193) dX4_unlike_130 rfl sc_193 ?_
        refine e_iald dX4_unlike_133 rfl ps_82 (by decide) rfl (by omega) ?_
        refine e_topi (nI (bk (193))) c2 ?_
        refine e_iand dX4_unlike_134 rfl ?_
        refine e_if_eq_f dX4_unlike_135 rfl ⟨142, by decide⟩ (dcB_1 l2 c2l d2) ?_
        refine e_iconst (v := nI 1) dX4_unlike_138 rfl ic_1 ?_
        refine e_goto (tgt := 143) dX4_unlike_139 (by decide) ?_
        refine e_nc_eq_t (tgt := 150) dX4_unlike_143 (by decide) (by omega) (by omega) (by decide) ?_
        refine e_iconst (v := nI 0) dX4_unlike_150 rfl ic_0 ?_
        refine e_iadd dX4_unlike_151 rfl ?_
        refine e_topi (nI (cntN (ulB bk) x + 0)) (nI_add _ _) ?_
        refine e_istore_1 dX4_unlike_152 rfl (Nat.le_of_ble_eq_true rfl) rfl ?_
        refine e_iinc_2 (v := nI (x + 1)) dX4_unlike_153 rfl (Nat.le_of_ble_eq_true rfl) rfl (nI_1 x) ?_
        refine e_goto (tgt := 4) dX4_unlike_156 (by decide) ?_
        refine e_weak (weak_c (weak_c (weak_c (weak_n (weak_n (weak_n weak_nil)))))) ?_
        refine e_loc ?_ ih
        rw [cntN, ulB, e1, e2, d1, d2]; rfl
      | false =>
        refine e_iload_2 dX4_unlike_4 rfl ?_
        refine e_ldc dX4_unlike_5 rfl kcX4_123 ?_
        refine e_topi (nI 32768) (by decide) ?_
        refine e_nc_ge_f dX4_unlike_7 rfl ⟨159, by decide⟩ (by omega) (by omega) hx ?_
        refine e_aload_0 dX4_unlike_10 rfl ?_
        refine e_getR dX4_unlike_11 rfl lkX4_62 rfl ps_64 (by decide) (by decide) (mr_of hmr rfl) ?_
        refine e_iload_2 dX4_unlike_14 rfl ?_
        refine e_sipush (v := nI 1024) dX4_unlike_15 rfl sc_1024 ?_
        refine e_idiv dX4_unlike_18 rfl (by decide) ?_
        refine e_topi (nI (x / 1024)) (pk_div (by omega) (by decide) (by decide)) ?_
        refine e_iald dX4_unlike_19 rfl ps_82 (by decide) rfl (by omega) ?_
        refine e_topi (nI (bk (x / 1024))) a1 ?_
        refine e_aload_0 dX4_unlike_20 rfl ?_
        refine e_getR dX4_unlike_21 rfl lkX4_62 rfl ps_64 (by decide) (by decide) (mr_of hmr rfl) ?_
        refine e_bipush (v := nI 32) dX4_unlike_24 rfl bc_32 ?_
        refine e_iload_2 dX4_unlike_26 rfl ?_
        refine e_bipush (v := nI 32) dX4_unlike_27 rfl bc_32 ?_
        refine e_idiv dX4_unlike_29 rfl (by decide) ?_
        refine e_topi (nI (x / 32)) (pk_div (by omega) (by decide) (by decide)) ?_
        refine e_bipush (v := nI 32) dX4_unlike_30 rfl bc_32 ?_
        refine e_irem dX4_unlike_32 rfl (by decide) ?_
        refine e_topi (nI ((x / 32) % 32)) (pk_rem (by omega) (by decide) (by decide)) ?_
        refine e_iadd dX4_unlike_33 rfl ?_
        refine e_topi (nI (32 + (x / 32) % 32)) (nI_add _ _) ?_
        refine e_iald dX4_unlike_34 rfl ps_82 (by decide) rfl (by omega) ?_
        refine e_topi (nI (bk (32 + (x / 32) % 32))) a2 ?_
        refine e_iand dX4_unlike_35 rfl ?_
        refine e_topi (nI (bk (x / 1024) &&& bk (32 + (x / 32) % 32))) (nI_and (by omega) (by omega)) ?_
        refine e_aload_0 dX4_unlike_36 rfl ?_
        refine e_getR dX4_unlike_37 rfl lkX4_62 rfl ps_64 (by decide) (by decide) (mr_of hmr rfl) ?_
        refine e_bipush (v := nI 64) dX4_unlike_40 rfl bc_64 ?_
        refine e_iload_2 dX4_unlike_42 rfl ?_
        refine e_bipush (v := nI 32) dX4_unlike_43 rfl bc_32 ?_
        refine e_irem dX4_unlike_45 rfl (by decide) ?_
        refine e_topi (nI (x % 32)) (pk_rem (by omega) (by decide) (by decide)) ?_
        refine e_iadd dX4_unlike_46 rfl ?_
        refine e_topi (nI (64 + x % 32)) (nI_add _ _) ?_
        refine e_iald dX4_unlike_47 rfl ps_82 (by decide) rfl (by omega) ?_
        refine e_topi (nI (bk (64 + x % 32))) a3 ?_
        refine e_iand dX4_unlike_48 rfl ?_
        refine e_topi (nI (bk (x / 1024) &&& bk (32 + (x / 32) % 32) &&& bk (64 + x % 32))) (and3 a1l a2l a3l) ?_
        refine e_istore_3 dX4_unlike_49 rfl (Nat.le_of_ble_eq_true rfl) rfl ?_
        refine e_aload_0 dX4_unlike_50 rfl ?_
        refine e_getR dX4_unlike_51 rfl lkX4_62 rfl ps_64 (by decide) (by decide) (mr_of hmr rfl) ?_
        refine e_bipush (v := nI 97) dX4_unlike_54 rfl bc_97 ?_
        refine e_iload_2 dX4_unlike_56 rfl ?_
        refine e_sipush (v := nI 1024) dX4_unlike_57 rfl sc_1024 ?_
        refine e_idiv dX4_unlike_60 rfl (by decide) ?_
        refine e_topi (nI (x / 1024)) (pk_div (by omega) (by decide) (by decide)) ?_
        refine e_iadd dX4_unlike_61 rfl ?_
        refine e_topi (nI (97 + x / 1024)) (nI_add _ _) ?_
        refine e_iald dX4_unlike_62 rfl ps_82 (by decide) rfl (by omega) ?_
        refine e_topi (nI (bk (97 + x / 1024))) b1 ?_
        refine e_aload_0 dX4_unlike_63 rfl ?_
        refine e_getR dX4_unlike_64 rfl lkX4_62 rfl ps_64 (by decide) (by decide) (mr_of hmr rfl) ?_
        refine e_sipush (v := nI 129) dX4_unlike_67 rfl sc_129 ?_
        refine e_iload_2 dX4_unlike_70 rfl ?_
        refine e_bipush (v := nI 32) dX4_unlike_71 rfl bc_32 ?_
        refine e_idiv dX4_unlike_73 rfl (by decide) ?_
        refine e_topi (nI (x / 32)) (pk_div (by omega) (by decide) (by decide)) ?_
        refine e_bipush (v := nI 32) dX4_unlike_74 rfl bc_32 ?_
        refine e_irem dX4_unlike_76 rfl (by decide) ?_
        refine e_topi (nI ((x / 32) % 32)) (pk_rem (by omega) (by decide) (by decide)) ?_
        refine e_iadd dX4_unlike_77 rfl ?_
        refine e_topi (nI (129 + (x / 32) % 32)) (nI_add _ _) ?_
        refine e_iald dX4_unlike_78 rfl ps_82 (by decide) rfl (by omega) ?_
        refine e_topi (nI (bk (129 + (x / 32) % 32))) b2 ?_
        refine e_iand dX4_unlike_79 rfl ?_
        refine e_topi (nI (bk (97 + x / 1024) &&& bk (129 + (x / 32) % 32))) (nI_and (by omega) (by omega)) ?_
        refine e_aload_0 dX4_unlike_80 rfl ?_
        refine e_getR dX4_unlike_81 rfl lkX4_62 rfl ps_64 (by decide) (by decide) (mr_of hmr rfl) ?_
        refine e_sipush (v := nI 161) dX4_unlike_84 rfl sc_161 ?_
        refine e_iload_2 dX4_unlike_87 rfl ?_
        refine e_bipush (v := nI 32) dX4_unlike_88 rfl bc_32 ?_
        refine e_irem dX4_unlike_90 rfl (by decide) ?_
        refine e_topi (nI (x % 32)) (pk_rem (by omega) (by decide) (by decide)) ?_
        refine e_iadd dX4_unlike_91 rfl ?_
        refine e_topi (nI (161 + x % 32)) (nI_add _ _) ?_
        refine e_iald dX4_unlike_92 rfl ps_82 (by decide) rfl (by omega) ?_
        refine e_topi (nI (bk (161 + x % 32))) b3 ?_
        refine e_iand dX4_unlike_93 rfl ?_
        refine e_topi (nI (bk (97 + x / 1024) &&& bk (129 + (x / 32) % 32) &&& bk (161 + x % 32))) (and3 b1l b2l b3l) ?_
        refine e_istore_4 dX4_unlike_94 rfl (Nat.le_of_ble_eq_true rfl) rfl ?_
        refine e_iload_3 dX4_unlike_96 rfl ?_
        refine e_callS dX4_unlike_97 rfl csX4_124 (m_first hf) rfl rfl ⟨Nat.le_of_ble_eq_true rfl, Nat.le_of_ble_eq_true rfl⟩ ⟨Nat.le_of_ble_eq_true rfl, Nat.le_of_ble_eq_true rfl⟩ rfl rfl (Nat.le_of_ble_eq_true rfl) ?_
        refine e_aload_0 dX4_unlike_100 rfl ?_
        refine e_getR dX4_unlike_101 rfl lkX4_62 rfl ps_64 (by decide) (by decide) (mr_of hmr rfl) ?_
        refine e_bipush (v := nI 96) dX4_unlike_104 rfl bc_96 ?_
        refine e_iald dX4_unlike_106 rfl ps_82 (by decide) rfl (by omega) ?_
        refine e_topi (nI (bk (96))) c1 ?_
        refine e_iand dX4_unlike_107 rfl ?_
        refine e_if_eq_f dX4_unlike_108 rfl ⟨115, by decide⟩ (dcB_1 l1 c1l d1) ?_
        refine e_iconst (v := nI 1) dX4_unlike_111 rfl ic_1 ?_
        refine e_goto (tgt := 116) dX4_unlike_112 (by decide) ?_
        refine e_istore_5 dX4_unlike_116 rfl (Nat.le_of_ble_eq_true rfl) rfl ?_
        refine e_iload_1 dX4_unlike_118 rfl ?_
        refine e_iload_5 dX4_unlike_119 rfl ?_
        refine e_iload_4 dX4_unlike_121 rfl ?_
        refine e_callS dX4_unlike_123 rfl csX4_124 (m_first hf) rfl rfl ⟨Nat.le_of_ble_eq_true rfl, Nat.le_of_ble_eq_true rfl⟩ ⟨Nat.le_of_ble_eq_true rfl, Nat.le_of_ble_eq_true rfl⟩ rfl rfl (Nat.le_of_ble_eq_true rfl) ?_
        refine e_aload_0 dX4_unlike_126 rfl ?_
        refine e_getR dX4_unlike_127 rfl lkX4_62 rfl ps_64 (by decide) (by decide) (mr_of hmr rfl) ?_
        refine e_sipush (v := nI 193) dX4_unlike_130 rfl sc_193 ?_
        refine e_iald dX4_unlike_133 rfl ps_82 (by decide) rfl (by omega) ?_
        refine e_topi (nI (bk (193))) c2 ?_
        refine e_iand dX4_unlike_134 rfl ?_
        refine e_if_eq_t (tgt := 142) dX4_unlike_135 (by decide) (dcB_0 l2 c2l d2) ?_
        refine e_iconst (v := nI 0) dX4_unlike_142 rfl ic_0 ?_
        refine e_nc_eq_f dX4_unlike_143 rfl ⟨150, by decide⟩ (by omega) (by omega) (by decide) ?_
        refine e_iconst (v := nI 1) dX4_unlike_146 rfl ic_1 ?_
        refine e_goto (tgt := 151) dX4_unlike_147 (by decide) ?_
        refine e_iadd dX4_unlike_151 rfl ?_
        refine e_topi (nI (cntN (ulB bk) x + 1)) (nI_add _ _) ?_
        refine e_istore_1 dX4_unlike_152 rfl (Nat.le_of_ble_eq_true rfl) rfl ?_
        refine e_iinc_2 (v := nI (x + 1)) dX4_unlike_153 rfl (Nat.le_of_ble_eq_true rfl) rfl (nI_1 x) ?_
        refine e_goto (tgt := 4) dX4_unlike_156 (by decide) ?_
        refine e_weak (weak_c (weak_c (weak_c (weak_n (weak_n (weak_n weak_nil)))))) ?_
        refine e_loc ?_ ih
        rw [cntN, ulB, e1, e2, d1, d2]; rfl
    | false =>
      cases d2 : dcB (bk (97 + x / 1024) &&& bk (129 + (x / 32) % 32) &&& bk (161 + x % 32)) (bk 193) with
      | true =>
        refine e_iload_2 dX4_unlike_4 rfl ?_
        refine e_ldc dX4_unlike_5 rfl kcX4_123 ?_
        refine e_topi (nI 32768) (by decide) ?_
        refine e_nc_ge_f dX4_unlike_7 rfl ⟨159, by decide⟩ (by omega) (by omega) hx ?_
        refine e_aload_0 dX4_unlike_10 rfl ?_
        refine e_getR dX4_unlike_11 rfl lkX4_62 rfl ps_64 (by decide) (by decide) (mr_of hmr rfl) ?_
        refine e_iload_2 dX4_unlike_14 rfl ?_
        refine e_sipush (v := nI 1024) dX4_unlike_15 rfl sc_1024 ?_
        refine e_idiv dX4_unlike_18 rfl (by decide) ?_
        refine e_topi (nI (x / 1024)) (pk_div (by omega) (by decide) (by decide)) ?_
        refine e_iald dX4_unlike_19 rfl ps_82 (by decide) rfl (by omega) ?_
        refine e_topi (nI (bk (x / 1024))) a1 ?_
        refine e_aload_0 dX4_unlike_20 rfl ?_
        refine e_getR dX4_unlike_21 rfl lkX4_62 rfl ps_64 (by decide) (by decide) (mr_of hmr rfl) ?_
        refine e_bipush (v := nI 32) dX4_unlike_24 rfl bc_32 ?_
        refine e_iload_2 dX4_unlike_26 rfl ?_
        refine e_bipush (v := nI 32) dX4_unlike_27 rfl bc_32 ?_
        refine e_idiv dX4_unlike_29 rfl (by decide) ?_
        refine e_topi (nI (x / 32)) (pk_div (by omega) (by decide) (by decide)) ?_
        refine e_bipush (v := nI 32) dX4_unlike_30 rfl bc_32 ?_
        refine e_irem dX4_unlike_32 rfl (by decide) ?_
        refine e_topi (nI ((x / 32) % 32)) (pk_rem (by omega) (by decide) (by decide)) ?_
        refine e_iadd dX4_unlike_33 rfl ?_
        refine e_topi (nI (32 + (x / 32) % 32)) (nI_add _ _) ?_
        refine e_iald dX4_unlike_34 rfl ps_82 (by decide) rfl (by omega) ?_
        refine e_topi (nI (bk (32 + (x / 32) % 32))) a2 ?_
        refine e_iand dX4_unlike_35 rfl ?_
        refine e_topi (nI (bk (x / 1024) &&& bk (32 + (x / 32) % 32))) (nI_and (by omega) (by omega)) ?_
        refine e_aload_0 dX4_unlike_36 rfl ?_
        refine e_getR dX4_unlike_37 rfl lkX4_62 rfl ps_64 (by decide) (by decide) (mr_of hmr rfl) ?_
        refine e_bipush (v := nI 64) dX4_unlike_40 rfl bc_64 ?_
        refine e_iload_2 dX4_unlike_42 rfl ?_
        refine e_bipush (v := nI 32) dX4_unlike_43 rfl bc_32 ?_
        refine e_irem dX4_unlike_45 rfl (by decide) ?_
        refine e_topi (nI (x % 32)) (pk_rem (by omega) (by decide) (by decide)) ?_
        refine e_iadd dX4_unlike_46 rfl ?_
        refine e_topi (nI (64 + x % 32)) (nI_add _ _) ?_
        refine e_iald dX4_unlike_47 rfl ps_82 (by decide) rfl (by omega) ?_
        refine e_topi (nI (bk (64 + x % 32))) a3 ?_
        refine e_iand dX4_unlike_48 rfl ?_
        refine e_topi (nI (bk (x / 1024) &&& bk (32 + (x / 32) % 32) &&& bk (64 + x % 32))) (and3 a1l a2l a3l) ?_
        refine e_istore_3 dX4_unlike_49 rfl (Nat.le_of_ble_eq_true rfl) rfl ?_
        refine e_aload_0 dX4_unlike_50 rfl ?_
        refine e_getR dX4_unlike_51 rfl lkX4_62 rfl ps_64 (by decide) (by decide) (mr_of hmr rfl) ?_
        refine e_bipush (v := nI 97) dX4_unlike_54 rfl bc_97 ?_
        refine e_iload_2 dX4_unlike_56 rfl ?_
        refine e_sipush (v := nI 1024) dX4_unlike_57 rfl sc_1024 ?_
        refine e_idiv dX4_unlike_60 rfl (by decide) ?_
        refine e_topi (nI (x / 1024)) (pk_div (by omega) (by decide) (by decide)) ?_
        refine e_iadd dX4_unlike_61 rfl ?_
        refine e_topi (nI (97 + x / 1024)) (nI_add _ _) ?_
        refine e_iald dX4_unlike_62 rfl ps_82 (by decide) rfl (by omega) ?_
        refine e_topi (nI (bk (97 + x / 1024))) b1 ?_
        refine e_aload_0 dX4_unlike_63 rfl ?_
        refine e_getR dX4_unlike_64 rfl lkX4_62 rfl ps_64 (by decide) (by decide) (mr_of hmr rfl) ?_
        refine e_sipush (v := nI 129) dX4_unlike_67 rfl sc_129 ?_
        refine e_iload_2 dX4_unlike_70 rfl ?_
        refine e_bipush (v := nI 32) dX4_unlike_71 rfl bc_32 ?_
        refine e_idiv dX4_unlike_73 rfl (by decide) ?_
        refine e_topi (nI (x / 32)) (pk_div (by omega) (by decide) (by decide)) ?_
        refine e_bipush (v := nI 32) dX4_unlike_74 rfl bc_32 ?_
        refine e_irem dX4_unlike_76 rfl (by decide) ?_
        refine e_topi (nI ((x / 32) % 32)) (pk_rem (by omega) (by decide) (by decide)) ?_
        refine e_iadd dX4_unlike_77 rfl ?_
        refine e_topi (nI (129 + (x / 32) % 32)) (nI_add _ _) ?_
        refine e_iald dX4_unlike_78 rfl ps_82 (by decide) rfl (by omega) ?_
        refine e_topi (nI (bk (129 + (x / 32) % 32))) b2 ?_
        refine e_iand dX4_unlike_79 rfl ?_
        refine e_topi (nI (bk (97 + x / 1024) &&& bk (129 + (x / 32) % 32))) (nI_and (by omega) (by omega)) ?_
        refine e_aload_0 dX4_unlike_80 rfl ?_
        refine e_getR dX4_unlike_81 rfl lkX4_62 rfl ps_64 (by decide) (by decide) (mr_of hmr rfl) ?_
        refine e_sipush (v := nI 161) dX4_unlike_84 rfl sc_161 ?_
        refine e_iload_2 dX4_unlike_87 rfl ?_
        refine e_bipush (v := nI 32) dX4_unlike_88 rfl bc_32 ?_
        refine e_irem dX4_unlike_90 rfl (by decide) ?_
        refine e_topi (nI (x % 32)) (pk_rem (by omega) (by decide) (by decide)) ?_
        refine e_iadd dX4_unlike_91 rfl ?_
        refine e_topi (nI (161 + x % 32)) (nI_add _ _) ?_
        refine e_iald dX4_unlike_92 rfl ps_82 (by decide) rfl (by omega) ?_
        refine e_topi (nI (bk (161 + x % 32))) b3 ?_
        refine e_iand dX4_unlike_93 rfl ?_
        refine e_topi (nI (bk (97 + x / 1024) &&& bk (129 + (x / 32) % 32) &&& bk (161 + x % 32))) (and3 b1l b2l b3l) ?_
        refine e_istore_4 dX4_unlike_94 rfl (Nat.le_of_ble_eq_true rfl) rfl ?_
        refine e_iload_3 dX4_unlike_96 rfl ?_
        refine e_callS dX4_unlike_97 rfl csX4_124 (m_first hf) rfl rfl ⟨Nat.le_of_ble_eq_true rfl, Nat.le_of_ble_eq_true rfl⟩ ⟨Nat.le_of_ble_eq_true rfl, Nat.le_of_ble_eq_true rfl⟩ rfl rfl (Nat.le_of_ble_eq_true rfl) ?_
        refine e_aload_0 dX4_unlike_100 rfl ?_
        refine e_getR dX4_unlike_101 rfl lkX4_62 rfl ps_64 (by decide) (by decide) (mr_of hmr rfl) ?_
        refine e_bipush (v := nI 96) dX4_unlike_104 rfl bc_96 ?_
        refine e_iald dX4_unlike_106 rfl ps_82 (by decide) rfl (by omega) ?_
        refine e_topi (nI (bk (96))) c1 ?_
        refine e_iand dX4_unlike_107 rfl ?_
        refine e_if_eq_t (tgt := 115) dX4_unlike_108 (by decide) (dcB_0 l1 c1l d1) ?_
        refine e_iconst (v := nI 0) dX4_unlike_115 rfl ic_0 ?_
        refine e_istore_5 dX4_unlike_116 rfl (Nat.le_of_ble_eq_true rfl) rfl ?_
        refine e_iload_1 dX4_unlike_118 rfl ?_
        refine e_iload_5 dX4_unlike_119 rfl ?_
        refine e_iload_4 dX4_unlike_121 rfl ?_
        refine e_callS dX4_unlike_123 rfl csX4_124 (m_first hf) rfl rfl ⟨Nat.le_of_ble_eq_true rfl, Nat.le_of_ble_eq_true rfl⟩ ⟨Nat.le_of_ble_eq_true rfl, Nat.le_of_ble_eq_true rfl⟩ rfl rfl (Nat.le_of_ble_eq_true rfl) ?_
        refine e_aload_0 dX4_unlike_126 rfl ?_
        refine e_getR dX4_unlike_127 rfl lkX4_62 rfl ps_64 (by decide) (by decide) (mr_of hmr rfl) ?_
        refine e_sipush (v := nI 193) dX4_unlike_130 rfl sc_193 ?_
        refine e_iald dX4_unlike_133 rfl ps_82 (by decide) rfl (by omega) ?_
        refine e_topi (nI (bk (193))) c2 ?_
        refine e_iand dX4_unlike_134 rfl ?_
        refine e_if_eq_f dX4_unlike_135 rfl ⟨142, by decide⟩ (dcB_1 l2 c2l d2) ?_
        refine e_iconst (v := nI 1) dX4_unlike_138 rfl ic_1 ?_
        refine e_goto (tgt := 143) dX4_unlike_139 (by decide) ?_
        refine e_nc_eq_f dX4_unlike_143 rfl ⟨150, by decide⟩ (by omega) (by omega) (by decide) ?_
        refine e_iconst (v := nI 1) dX4_unlike_146 rfl ic_1 ?_
        refine e_goto (tgt := 151) dX4_unlike_147 (by decide) ?_
        refine e_iadd dX4_unlike_151 rfl ?_
        refine e_topi (nI (cntN (ulB bk) x + 1)) (nI_add _ _) ?_
        refine e_istore_1 dX4_unlike_152 rfl (Nat.le_of_ble_eq_true rfl) rfl ?_
        refine e_iinc_2 (v := nI (x + 1)) dX4_unlike_153 rfl (Nat.le_of_ble_eq_true rfl) rfl (nI_1 x) ?_
        refine e_goto (tgt := 4) dX4_unlike_156 (by decide) ?_
        refine e_weak (weak_c (weak_c (weak_c (weak_n (weak_n (weak_n weak_nil)))))) ?_
        refine e_loc ?_ ih
        rw [cntN, ulB, e1, e2, d1, d2]; rfl
      | false =>
        refine e_iload_2 dX4_unlike_4 rfl ?_
        refine e_ldc dX4_unlike_5 rfl kcX4_123 ?_
        refine e_topi (nI 32768) (by decide) ?_
        refine e_nc_ge_f dX4_unlike_7 rfl ⟨159, by decide⟩ (by omega) (by omega) hx ?_
        refine e_aload_0 dX4_unlike_10 rfl ?_
        refine e_getR dX4_unlike_11 rfl lkX4_62 rfl ps_64 (by decide) (by decide) (mr_of hmr rfl) ?_
        refine e_iload_2 dX4_unlike_14 rfl ?_
        refine e_sipush (v := nI 1024) dX4_unlike_15 rfl sc_1024 ?_
        refine e_idiv dX4_unlike_18 rfl (by decide) ?_
        refine e_topi (nI (x / 1024)) (pk_div (by omega) (by decide) (by decide)) ?_
        refine e_iald dX4_unlike_19 rfl ps_82 (by decide) rfl (by omega) ?_
        refine e_topi (nI (bk (x / 1024))) a1 ?_
        refine e_aload_0 dX4_unlike_20 rfl ?_
        refine e_getR dX4_unlike_21 rfl lkX4_62 rfl ps_64 (by decide) (by decide) (mr_of hmr rfl) ?_
        refine e_bipush (v := nI 32) dX4_unlike_24 rfl bc_32 ?_
        refine e_iload_2 dX4_unlike_26 rfl ?_
        refine e_bipush (v := nI 32) dX4_unlike_27 rfl bc_32 ?_
        refine e_idiv dX4_unlike_29 rfl (by decide) ?_
        refine e_topi (nI (x / 32)) (pk_div (by omega) (by decide) (by decide)) ?_
        refine e_bipush (v := nI 32) dX4_unlike_30 rfl bc_32 ?_
        refine e_irem dX4_unlike_32 rfl (by decide) ?_
        refine e_topi (nI ((x / 32) % 32)) (pk_rem (by omega) (by decide) (by decide)) ?_
        refine e_iadd dX4_unlike_33 rfl ?_
        refine e_topi (nI (32 + (x / 32) % 32)) (nI_add _ _) ?_
        refine e_iald dX4_unlike_34 rfl ps_82 (by decide) rfl (by omega) ?_
        refine e_topi (nI (bk (32 + (x / 32) % 32))) a2 ?_
        refine e_iand dX4_unlike_35 rfl ?_
        refine e_topi (nI (bk (x / 1024) &&& bk (32 + (x / 32) % 32))) (nI_and (by omega) (by omega)) ?_
        refine e_aload_0 dX4_unlike_36 rfl ?_
        refine e_getR dX4_unlike_37 rfl lkX4_62 rfl ps_64 (by decide) (by decide) (mr_of hmr rfl) ?_
        refine e_bipush (v := nI 64) dX4_unlike_40 rfl bc_64 ?_
        refine e_iload_2 dX4_unlike_42 rfl ?_
        refine e_bipush (v := nI 32) dX4_unlike_43 rfl bc_32 ?_
        refine e_irem dX4_unlike_45 rfl (by decide) ?_
        refine e_topi (nI (x % 32)) (pk_rem (by omega) (by decide) (by decide)) ?_
        refine e_iadd dX4_unlike_46 rfl ?_
        refine e_topi (nI (64 + x % 32)) (nI_add _ _) ?_
        refine e_iald dX4_unlike_47 rfl ps_82 (by decide) rfl (by omega) ?_
        refine e_topi (nI (bk (64 + x % 32))) a3 ?_
        refine e_iand dX4_unlike_48 rfl ?_
        refine e_topi (nI (bk (x / 1024) &&& bk (32 + (x / 32) % 32) &&& bk (64 + x % 32))) (and3 a1l a2l a3l) ?_
        refine e_istore_3 dX4_unlike_49 rfl (Nat.le_of_ble_eq_true rfl) rfl ?_
        refine e_aload_0 dX4_unlike_50 rfl ?_
        refine e_getR dX4_unlike_51 rfl lkX4_62 rfl ps_64 (by decide) (by decide) (mr_of hmr rfl) ?_
        refine e_bipush (v := nI 97) dX4_unlike_54 rfl bc_97 ?_
        refine e_iload_2 dX4_unlike_56 rfl ?_
        refine e_sipush (v := nI 1024) dX4_unlike_57 rfl sc_1024 ?_
        refine e_idiv dX4_unlike_60 rfl (by decide) ?_
        refine e_topi (nI (x / 1024)) (pk_div (by omega) (by decide) (by decide)) ?_
        refine e_iadd dX4_unlike_61 rfl ?_
        refine e_topi (nI (97 + x / 1024)) (nI_add _ _) ?_
        refine e_iald dX4_unlike_62 rfl ps_82 (by decide) rfl (by omega) ?_
        refine e_topi (nI (bk (97 + x / 1024))) b1 ?_
        refine e_aload_0 dX4_unlike_63 rfl ?_
        refine e_getR dX4_unlike_64 rfl lkX4_62 rfl ps_64 (by decide) (by decide) (mr_of hmr rfl) ?_
        refine e_sipush (v := nI 129) dX4_unlike_67 rfl sc_129 ?_
        refine e_iload_2 dX4_unlike_70 rfl ?_
        refine e_bipush (v := nI 32) dX4_unlike_71 rfl bc_32 ?_
        refine e_idiv dX4_unlike_73 rfl (by decide) ?_
        refine e_topi (nI (x / 32)) (pk_div (by omega) (by decide) (by decide)) ?_
        refine e_bipush (v := nI 32) dX4_unlike_74 rfl bc_32 ?_
        refine e_irem dX4_unlike_76 rfl (by decide) ?_
        refine e_topi (nI ((x / 32) % 32)) (pk_rem (by omega) (by decide) (by decide)) ?_
        refine e_iadd dX4_unlike_77 rfl ?_
        refine e_topi (nI (129 + (x / 32) % 32)) (nI_add _ _) ?_
        refine e_iald dX4_unlike_78 rfl ps_82 (by decide) rfl (by omega) ?_
        refine e_topi (nI (bk (129 + (x / 32) % 32))) b2 ?_
        refine e_iand dX4_unlike_79 rfl ?_
        refine e_topi (nI (bk (97 + x / 1024) &&& bk (129 + (x / 32) % 32))) (nI_and (by omega) (by omega)) ?_
        refine e_aload_0 dX4_unlike_80 rfl ?_
        refine e_getR dX4_unlike_81 rfl lkX4_62 rfl ps_64 (by decide) (by decide) (mr_of hmr rfl) ?_
        refine e_sipush (v := nI 161) dX4_unlike_84 rfl sc_161 ?_
        refine e_iload_2 dX4_unlike_87 rfl ?_
        refine e_bipush (v := nI 32) dX4_unlike_88 rfl bc_32 ?_
        refine e_irem dX4_unlike_90 rfl (by decide) ?_
        refine e_topi (nI (x % 32)) (pk_rem (by omega) (by decide) (by decide)) ?_
        refine e_iadd dX4_unlike_91 rfl ?_
        refine e_topi (nI (161 + x % 32)) (nI_add _ _) ?_
        refine e_iald dX4_unlike_92 rfl ps_82 (by decide) rfl (by omega) ?_
        refine e_topi (nI (bk (161 + x % 32))) b3 ?_
        refine e_iand dX4_unlike_93 rfl ?_
        refine e_topi (nI (bk (97 + x / 1024) &&& bk (129 + (x / 32) % 32) &&& bk (161 + x % 32))) (and3 b1l b2l b3l) ?_
        refine e_istore_4 dX4_unlike_94 rfl (Nat.le_of_ble_eq_true rfl) rfl ?_
        refine e_iload_3 dX4_unlike_96 rfl ?_
        refine e_callS dX4_unlike_97 rfl csX4_124 (m_first hf) rfl rfl ⟨Nat.le_of_ble_eq_true rfl, Nat.le_of_ble_eq_true rfl⟩ ⟨Nat.le_of_ble_eq_true rfl, Nat.le_of_ble_eq_true rfl⟩ rfl rfl (Nat.le_of_ble_eq_true rfl) ?_
        refine e_aload_0 dX4_unlike_100 rfl ?_
        refine e_getR dX4_unlike_101 rfl lkX4_62 rfl ps_64 (by decide) (by decide) (mr_of hmr rfl) ?_
        refine e_bipush (v := nI 96) dX4_unlike_104 rfl bc_96 ?_
        refine e_iald dX4_unlike_106 rfl ps_82 (by decide) rfl (by omega) ?_
        refine e_topi (nI (bk (96))) c1 ?_
        refine e_iand dX4_unlike_107 rfl ?_
        refine e_if_eq_t (tgt := 115) dX4_unlike_108 (by decide) (dcB_0 l1 c1l d1) ?_
        refine e_iconst (v := nI 0) dX4_unlike_115 rfl ic_0 ?_
        refine e_istore_5 dX4_unlike_116 rfl (Nat.le_of_ble_eq_true rfl) rfl ?_
        refine e_iload_1 dX4_unlike_118 rfl ?_
        refine e_iload_5 dX4_unlike_119 rfl ?_
        refine e_iload_4 dX4_unlike_121 rfl ?_
        refine e_callS dX4_unlike_123 rfl csX4_124 (m_first hf) rfl rfl ⟨Nat.le_of_ble_eq_true rfl, Nat.le_of_ble_eq_true rfl⟩ ⟨Nat.le_of_ble_eq_true rfl, Nat.le_of_ble_eq_true rfl⟩ rfl rfl (Nat.le_of_ble_eq_true rfl) ?_
        refine e_aload_0 dX4_unlike_126 rfl ?_
        refine e_getR dX4_unlike_127 rfl lkX4_62 rfl ps_64 (by decide) (by decide) (mr_of hmr rfl) ?_
        refine e_sipush (v := nI 193) dX4_unlike_130 rfl sc_193 ?_
        refine e_iald dX4_unlike_133 rfl ps_82 (by decide) rfl (by omega) ?_
        refine e_topi (nI (bk (193))) c2 ?_
        refine e_iand dX4_unlike_134 rfl ?_
        refine e_if_eq_t (tgt := 142) dX4_unlike_135 (by decide) (dcB_0 l2 c2l d2) ?_
        refine e_iconst (v := nI 0) dX4_unlike_142 rfl ic_0 ?_
        refine e_nc_eq_t (tgt := 150) dX4_unlike_143 (by decide) (by omega) (by omega) (by decide) ?_
        refine e_iconst (v := nI 0) dX4_unlike_150 rfl ic_0 ?_
        refine e_iadd dX4_unlike_151 rfl ?_
        refine e_topi (nI (cntN (ulB bk) x + 0)) (nI_add _ _) ?_
        refine e_istore_1 dX4_unlike_152 rfl (Nat.le_of_ble_eq_true rfl) rfl ?_
        refine e_iinc_2 (v := nI (x + 1)) dX4_unlike_153 rfl (Nat.le_of_ble_eq_true rfl) rfl (nI_1 x) ?_
        refine e_goto (tgt := 4) dX4_unlike_156 (by decide) ?_
        refine e_weak (weak_c (weak_c (weak_c (weak_n (weak_n (weak_n weak_nil)))))) ?_
        refine e_loc ?_ ih
        rw [cntN, ulB, e1, e2, d1, d2]; rfl
theorem m_decidingP {l : Launch} (hf : l.stackTraces = false) {M : pmM} {od : Nat → Nat} (hmr : M.2.1 = mrC od) {bk : Nat → Nat} (hbk : BKn 97 M bk) {p : Nat} (hp : p < 8) : Sp l kX4_deciding_ 86 1 0 0 [.ref 64, .int (nI p)] M (.inl (some (.int (nI (cntN (fun x => decide (fo (at1 bk 0 x) = p)) 32768))))) M := by
  refine sp_of hf (by decide +kernel) (Nat.le_of_ble_eq_true rfl) (by intro v hv; simp at hv; rcases hv with rfl | rfl <;> rfl) rfl ?_
  refine e_iconst (v := nI 0) dX4_deciding__0 rfl ic_0 ?_
  refine e_istore_2 dX4_deciding__1 rfl (Nat.le_of_ble_eq_true rfl) rfl ?_
  refine e_iconst (v := nI 0) dX4_deciding__2 rfl ic_0 ?_
  refine e_istore_3 dX4_deciding__3 rfl (Nat.le_of_ble_eq_true rfl) rfl ?_
  refine loop_up (P := fun x => Ev l kX4_deciding_ (gM 86 0 0 (.inl (some (.int (nI (cntN (fun x => decide (fo (at1 bk 0 x) = p)) 32768))))) M) (rmd 1 0 0) 86 0 0 4 [some (.ref 64), some (.int (nI p)), some (.int (nI (cntN (fun x => decide (fo (at1 bk 0 x) = p)) x))), some (.int (nI x))] [] M) ?_ (fun x hx ih => ?_) 0 (Nat.zero_le 32768)
  · refine e_iload_3 dX4_deciding__4 rfl ?_
    refine e_ldc dX4_deciding__5 rfl kcX4_123 ?_
    refine e_topi (nI 32768) (by decide) ?_
    refine e_nc_ge_t (tgt := 72) dX4_deciding__7 (by decide) (by omega) (by omega) (Nat.le_refl _) ?_
    refine e_iload_2 dX4_deciding__72 rfl ?_
    exact e_iret dX4_deciding__73 rfl rfl (Nat.le_of_ble_eq_true rfl) (Nat.le_of_ble_eq_true rfl) rfl rfl
  · obtain ⟨a1, a1l⟩ := hbk (x / 1024) (by omega)
    obtain ⟨a2, a2l⟩ := hbk (32 + (x / 32) % 32) (by omega)
    obtain ⟨a3, a3l⟩ := hbk (64 + x % 32) (by omega)
    have e1 : at1 bk 0 x = (bk (x / 1024) &&& bk (32 + (x / 32) % 32) &&& bk (64 + x % 32)) := by unfold at1; rw [show 97 * 0 + x / 1024 = x / 1024 by omega, show 97 * 0 + 32 + x / 32 % 32 = 32 + x / 32 % 32 by omega, show 97 * 0 + 64 + x % 32 = 64 + x % 32 by omega]
    have l1 : (bk (x / 1024) &&& bk (32 + (x / 32) % 32) &&& bk (64 + x % 32)) < 256 := Nat.lt_of_le_of_lt Nat.and_le_right a3l
    by_cases d1 : fo (bk (x / 1024) &&& bk (32 + (x / 32) % 32) &&& bk (64 + x % 32)) = p
    · refine e_iload_3 dX4_deciding__4 rfl ?_
      refine e_ldc dX4_deciding__5 rfl kcX4_123 ?_
      refine e_topi (nI 32768) (by decide) ?_
      refine e_nc_ge_f dX4_deciding__7 rfl ⟨72, by decide⟩ (by omega) (by omega) hx ?_
      refine e_iload_2 dX4_deciding__10 rfl ?_
      refine e_aload_0 dX4_deciding__11 rfl ?_
      refine e_getR dX4_deciding__12 rfl lkX4_62 rfl ps_64 (by decide) (by decide) (mr_of hmr rfl) ?_
      refine e_iload_3 dX4_deciding__15 rfl ?_
      refine e_sipush (v := nI 1024) dX4_deciding__16 rfl sc_1024 ?_
      refine e_idiv dX4_deciding__19 rfl (by decide) ?_
      refine e_topi (nI (x / 1024)) (pk_div (by omega) (by decide) (by decide)) ?_
      refine e_iald dX4_deciding__20 rfl ps_82 (by decide) rfl (by omega) ?_
      refine e_topi (nI (bk (x / 1024))) a1 ?_
      refine e_aload_0 dX4_deciding__21 rfl ?_
      refine e_getR dX4_deciding__22 rfl lkX4_62 rfl ps_64 (by decide) (by decide) (mr_of hmr rfl) ?_
      refine e_bipush (v := nI 32) dX4_deciding__25 rfl bc_32 ?_
      refine e_iload_3 dX4_deciding__27 rfl ?_
      refine e_bipush (v := nI 32) dX4_deciding__28 rfl bc_32 ?_
      refine e_idiv dX4_deciding__30 rfl (by decide) ?_
      refine e_topi (nI (x / 32)) (pk_div (by omega) (by decide) (by decide)) ?_
      refine e_bipush (v := nI 32) dX4_deciding__31 rfl bc_32 ?_
      refine e_irem dX4_deciding__33 rfl (by decide) ?_
      refine e_topi (nI ((x / 32) % 32)) (pk_rem (by omega) (by decide) (by decide)) ?_
      refine e_iadd dX4_deciding__34 rfl ?_
      refine e_topi (nI (32 + (x / 32) % 32)) (nI_add _ _) ?_
      refine e_iald dX4_deciding__35 rfl ps_82 (by decide) rfl (by omega) ?_
      refine e_topi (nI (bk (32 + (x / 32) % 32))) a2 ?_
      refine e_iand dX4_deciding__36 rfl ?_
      refine e_topi (nI (bk (x / 1024) &&& bk (32 + (x / 32) % 32))) (nI_and (by omega) (by omega)) ?_
      refine e_aload_0 dX4_deciding__37 rfl ?_
      refine e_getR dX4_deciding__38 rfl lkX4_62 rfl ps_64 (by decide) (by decide) (mr_of hmr rfl) ?_
      refine e_bipush (v := nI 64) dX4_deciding__41 rfl bc_64 ?_
      refine e_iload_3 dX4_deciding__43 rfl ?_
      refine e_bipush (v := nI 32) dX4_deciding__44 rfl bc_32 ?_
      refine e_irem dX4_deciding__46 rfl (by decide) ?_
      refine e_topi (nI (x % 32)) (pk_rem (by omega) (by decide) (by decide)) ?_
      refine e_iadd dX4_deciding__47 rfl ?_
      refine e_topi (nI (64 + x % 32)) (nI_add _ _) ?_
      refine e_iald dX4_deciding__48 rfl ps_82 (by decide) rfl (by omega) ?_
      refine e_topi (nI (bk (64 + x % 32))) a3 ?_
      refine e_iand dX4_deciding__49 rfl ?_
      refine e_topi (nI (bk (x / 1024) &&& bk (32 + (x / 32) % 32) &&& bk (64 + x % 32))) (and3 a1l a2l a3l) ?_
      refine e_callS dX4_deciding__50 rfl csX4_124 (m_first hf) rfl rfl ⟨Nat.le_of_ble_eq_true rfl, Nat.le_of_ble_eq_true rfl⟩ ⟨Nat.le_of_ble_eq_true rfl, Nat.le_of_ble_eq_true rfl⟩ rfl rfl (Nat.le_of_ble_eq_true rfl) ?_
      refine e_iconst (v := nI 1) dX4_deciding__53 rfl ic_1 ?_
      refine e_iload_1 dX4_deciding__54 rfl ?_
      refine e_ishl dX4_deciding__55 rfl ?_
      refine e_ic_ne_f dX4_deciding__56 rfl ⟨63, by decide⟩ ((fo_iff l1 hp).mpr d1) ?_
      refine e_iconst (v := nI 1) dX4_deciding__59 rfl ic_1 ?_
      refine e_goto (tgt := 64) dX4_deciding__60 (by decide) ?_
      refine e_iadd dX4_deciding__64 rfl ?_
      refine e_topi (nI (cntN (fun x => decide (fo (at1 bk 0 x) = p)) x + 1)) (nI_add _ _) ?_
      refine e_istore_2 dX4_deciding__65 rfl (Nat.le_of_ble_eq_true rfl) rfl ?_
      refine e_iinc_3 (v := nI (x + 1)) dX4_deciding__66 rfl (Nat.le_of_ble_eq_true rfl) rfl (nI_1 x) ?_
      refine e_goto (tgt := 4) dX4_deciding__69 (by decide) ?_
      refine e_loc ?_ ih
      rw [cntN, e1, if_pos (decide_eq_true d1)]
    · refine e_iload_3 dX4_deciding__4 rfl ?_
      refine e_ldc dX4_deciding__5 rfl kcX4_123 ?_
      refine e_topi (nI 32768) (by decide) ?_
      refine e_nc_ge_f dX4_deciding__7 rfl ⟨72, by decide⟩ (by omega) (by omega) hx ?_
      refine e_iload_2 dX4_deciding__10 rfl ?_
      refine e_aload_0 dX4_deciding__11 rfl ?_
      refine e_getR dX4_deciding__12 rfl lkX4_62 rfl ps_64 (by decide) (by decide) (mr_of hmr rfl) ?_
      refine e_iload_3 dX4_deciding__15 rfl ?_
      refine e_sipush (v := nI 1024) dX4_deciding__16 rfl sc_1024 ?_
      refine e_idiv dX4_deciding__19 rfl (by decide) ?_
      refine e_topi (nI (x / 1024)) (pk_div (by omega) (by decide) (by decide)) ?_
      refine e_iald dX4_deciding__20 rfl ps_82 (by decide) rfl (by omega) ?_
      refine e_topi (nI (bk (x / 1024))) a1 ?_
      refine e_aload_0 dX4_deciding__21 rfl ?_
      refine e_getR dX4_deciding__22 rfl lkX4_62 rfl ps_64 (by decide) (by decide) (mr_of hmr rfl) ?_
      refine e_bipush (v := nI 32) dX4_deciding__25 rfl bc_32 ?_
      refine e_iload_3 dX4_deciding__27 rfl ?_
      refine e_bipush (v := nI 32) dX4_deciding__28 rfl bc_32 ?_
      refine e_idiv dX4_deciding__30 rfl (by decide) ?_
      refine e_topi (nI (x / 32)) (pk_div (by omega) (by decide) (by decide)) ?_
      refine e_bipush (v := nI 32) dX4_deciding__31 rfl bc_32 ?_
      refine e_irem dX4_deciding__33 rfl (by decide) ?_
      refine e_topi (nI ((x / 32) % 32)) (pk_rem (by omega) (by decide) (by decide)) ?_
      refine e_iadd dX4_deciding__34 rfl ?_
      refine e_topi (nI (32 + (x / 32) % 32)) (nI_add _ _) ?_
      refine e_iald dX4_deciding__35 rfl ps_82 (by decide) rfl (by omega) ?_
      refine e_topi (nI (bk (32 + (x / 32) % 32))) a2 ?_
      refine e_iand dX4_deciding__36 rfl ?_
      refine e_topi (nI (bk (x / 1024) &&& bk (32 + (x / 32) % 32))) (nI_and (by omega) (by omega)) ?_
      refine e_aload_0 dX4_deciding__37 rfl ?_
      refine e_getR dX4_deciding__38 rfl lkX4_62 rfl ps_64 (by decide) (by decide) (mr_of hmr rfl) ?_
      refine e_bipush (v := nI 64) dX4_deciding__41 rfl bc_64 ?_
      refine e_iload_3 dX4_deciding__43 rfl ?_
      refine e_bipush (v := nI 32) dX4_deciding__44 rfl bc_32 ?_
      refine e_irem dX4_deciding__46 rfl (by decide) ?_
      refine e_topi (nI (x % 32)) (pk_rem (by omega) (by decide) (by decide)) ?_
      refine e_iadd dX4_deciding__47 rfl ?_
      refine e_topi (nI (64 + x % 32)) (nI_add _ _) ?_
      refine e_iald dX4_deciding__48 rfl ps_82 (by decide) rfl (by omega) ?_
      refine e_topi (nI (bk (64 + x % 32))) a3 ?_
      refine e_iand dX4_deciding__49 rfl ?_
      refine e_topi (nI (bk (x / 1024) &&& bk (32 + (x / 32) % 32) &&& bk (64 + x % 32))) (and3 a1l a2l a3l) ?_
      refine e_callS dX4_deciding__50 rfl csX4_124 (m_first hf) rfl rfl ⟨Nat.le_of_ble_eq_true rfl, Nat.le_of_ble_eq_true rfl⟩ ⟨Nat.le_of_ble_eq_true rfl, Nat.le_of_ble_eq_true rfl⟩ rfl rfl (Nat.le_of_ble_eq_true rfl) ?_
      refine e_iconst (v := nI 1) dX4_deciding__53 rfl ic_1 ?_
      refine e_iload_1 dX4_deciding__54 rfl ?_
      refine e_ishl dX4_deciding__55 rfl ?_
      refine e_ic_ne_t (tgt := 63) dX4_deciding__56 (by decide) (mt (fo_iff l1 hp).mp d1) ?_
      refine e_iconst (v := nI 0) dX4_deciding__63 rfl ic_0 ?_
      refine e_iadd dX4_deciding__64 rfl ?_
      refine e_topi (nI (cntN (fun x => decide (fo (at1 bk 0 x) = p)) x + 0)) (nI_add _ _) ?_
      refine e_istore_2 dX4_deciding__65 rfl (Nat.le_of_ble_eq_true rfl) rfl ?_
      refine e_iinc_3 (v := nI (x + 1)) dX4_deciding__66 rfl (Nat.le_of_ble_eq_true rfl) rfl (nI_1 x) ?_
      refine e_goto (tgt := 4) dX4_deciding__69 (by decide) ?_
      refine e_loc ?_ ih
      rw [cntN, e1, if_neg (by rw [decide_eq_false d1]; decide)]; rfl
theorem m_deciding_ok {l : Launch} (hf : l.stackTraces = false) {M : pmM} {od : Nat → Nat} (hmr : M.2.1 = mrC od) {rc : Nat} (hmc : M.1 64 8 = nI rc) (h8 : rc ≤ 8) {bk : Nat → Nat} (hbk : BKn 97 M bk) {a b c : Nat} (ha : a < 32) (hb : b < 32) (hc : c < 32) {p : Nat} (hp : p < rc) (hx : (bk a &&& bk (32 + b) &&& bk (64 + c)).testBit p = true) (hn : ∀ q, q < p → (bk a &&& bk (32 + b) &&& bk (64 + c)).testBit q = false) : Sp l kX4_deciding 86 0 0 0 [.ref 64, .int (nI a), .int (nI b), .int (nI c)] M (.inl (some (.int (nI p)))) M := by
  refine sp_of hf (by decide +kernel) (Nat.le_of_ble_eq_true rfl) (by intro v hv; simp at hv; rcases hv with rfl | rfl | rfl | rfl <;> rfl) rfl ?_
  obtain ⟨h1, h1l⟩ := hbk a (by omega)
  obtain ⟨h2, h2l⟩ := hbk (32 + b) (by omega)
  obtain ⟨h3, h3l⟩ := hbk (64 + c) (by omega)
  have l1 : (bk a &&& bk (32 + b) &&& bk (64 + c)) < 256 := Nat.lt_of_le_of_lt Nat.and_le_right h3l
  refine e_aload_0 dX4_deciding_0 rfl ?_
  refine e_getR dX4_deciding_1 rfl lkX4_62 rfl ps_64 (by decide) (by decide) (mr_of hmr rfl) ?_
  refine e_iload_1 dX4_deciding_4 rfl ?_
  refine e_iald dX4_deciding_5 rfl ps_82 (by decide) rfl (by omega) ?_
  refine e_topi (nI (bk a)) h1 ?_
  refine e_aload_0 dX4_deciding_6 rfl ?_
  refine e_getR dX4_deciding_7 rfl lkX4_62 rfl ps_64 (by decide) (by decide) (mr_of hmr rfl) ?_
  refine e_bipush (v := nI 32) dX4_deciding_10 rfl bc_32 ?_
  refine e_iload_2 dX4_deciding_12 rfl ?_
  refine e_iadd dX4_deciding_13 rfl ?_
  refine e_topi (nI (32 + b)) (nI_add _ _) ?_
  refine e_iald dX4_deciding_14 rfl ps_82 (by decide) rfl (by omega) ?_
  refine e_topi (nI (bk (32 + b))) h2 ?_
  refine e_iand dX4_deciding_15 rfl ?_
  refine e_topi (nI (bk a &&& bk (32 + b))) (nI_and (by omega) (by omega)) ?_
  refine e_aload_0 dX4_deciding_16 rfl ?_
  refine e_getR dX4_deciding_17 rfl lkX4_62 rfl ps_64 (by decide) (by decide) (mr_of hmr rfl) ?_
  refine e_bipush (v := nI 64) dX4_deciding_20 rfl bc_64 ?_
  refine e_iload_3 dX4_deciding_22 rfl ?_
  refine e_iadd dX4_deciding_23 rfl ?_
  refine e_topi (nI (64 + c)) (nI_add _ _) ?_
  refine e_iald dX4_deciding_24 rfl ps_82 (by decide) rfl (by omega) ?_
  refine e_topi (nI (bk (64 + c))) h3 ?_
  refine e_iand dX4_deciding_25 rfl ?_
  refine e_topi (nI (bk a &&& bk (32 + b) &&& bk (64 + c))) (and3 h1l h2l h3l) ?_
  refine e_istore_4 dX4_deciding_26 rfl (Nat.le_of_ble_eq_true rfl) rfl ?_
  refine e_iconst (v := nI 0) dX4_deciding_28 rfl ic_0 ?_
  refine e_istore_5 dX4_deciding_29 rfl (Nat.le_of_ble_eq_true rfl) rfl ?_
  refine loop_up (P := fun i => Ev l kX4_deciding (gM 86 0 0 (.inl (some (.int (nI p)))) M) (rmd 0 0 0) 86 0 0 31 [some (.ref 64), some (.int (nI a)), some (.int (nI b)), some (.int (nI c)), some (.int (nI (bk a &&& bk (32 + b) &&& bk (64 + c)))), some (.int (nI i))] [] M) ?_ (fun i hi ih => ?_) 0 (Nat.zero_le p)
  · refine e_iload_5 dX4_deciding_31 rfl ?_
    refine e_aload_0 dX4_deciding_33 rfl ?_
    refine e_getI dX4_deciding_34 rfl lkX4_79 rfl ps_64 (by decide) (by decide) ?_
    refine e_topi (nI rc) hmc ?_
    refine e_nc_ge_f dX4_deciding_37 rfl ⟨60, by decide⟩ (by omega) (by omega) hp ?_
    refine e_iload_4 dX4_deciding_40 rfl ?_
    refine e_iload_5 dX4_deciding_42 rfl ?_
    refine e_ishr dX4_deciding_44 rfl ?_
    refine e_iconst (v := nI 1) dX4_deciding_45 rfl ic_1 ?_
    refine e_iand dX4_deciding_46 rfl ?_
    refine e_iconst (v := nI 1) dX4_deciding_47 rfl ic_1 ?_
    refine e_ic_ne_f dX4_deciding_48 rfl ⟨54, by decide⟩ (shr_1 _ (by omega) ((hasb_nI l1 (by omega)).trans hx)) ?_
    refine e_iload_5 dX4_deciding_51 rfl ?_
    exact e_iret dX4_deciding_53 rfl rfl (Nat.le_of_ble_eq_true rfl) (Nat.le_of_ble_eq_true rfl) rfl rfl
  · refine e_iload_5 dX4_deciding_31 rfl ?_
    refine e_aload_0 dX4_deciding_33 rfl ?_
    refine e_getI dX4_deciding_34 rfl lkX4_79 rfl ps_64 (by decide) (by decide) ?_
    refine e_topi (nI rc) hmc ?_
    refine e_nc_ge_f dX4_deciding_37 rfl ⟨60, by decide⟩ (by omega) (by omega) (by omega) ?_
    refine e_iload_4 dX4_deciding_40 rfl ?_
    refine e_iload_5 dX4_deciding_42 rfl ?_
    refine e_ishr dX4_deciding_44 rfl ?_
    refine e_iconst (v := nI 1) dX4_deciding_45 rfl ic_1 ?_
    refine e_iand dX4_deciding_46 rfl ?_
    refine e_iconst (v := nI 1) dX4_deciding_47 rfl ic_1 ?_
    refine e_ic_ne_t (tgt := 54) dX4_deciding_48 (by decide) (shr_n1 _ (by omega) ((hasb_nI l1 (by omega)).trans (hn i hi))) ?_
    refine e_iinc_5 (v := nI (i + 1)) dX4_deciding_54 rfl (Nat.le_of_ble_eq_true rfl) rfl (nI_1 i) ?_
    refine e_goto (tgt := 31) dX4_deciding_57 (by decide) ?_
    exact ih
theorem m_deciding_no {l : Launch} (hf : l.stackTraces = false) {M : pmM} {od : Nat → Nat} (hmr : M.2.1 = mrC od) {rc : Nat} (hmc : M.1 64 8 = nI rc) (h8 : rc ≤ 8) {bk : Nat → Nat} (hbk : BKn 97 M bk) {a b c : Nat} (ha : a < 32) (hb : b < 32) (hc : c < 32) (hn : ∀ q, q < rc → (bk a &&& bk (32 + b) &&& bk (64 + c)).testBit q = false) : Sp l kX4_deciding 86 0 0 0 [.ref 64, .int (nI a), .int (nI b), .int (nI c)] M (.inl (some (.int (-1)))) M := by
  refine sp_of hf (by decide +kernel) (Nat.le_of_ble_eq_true rfl) (by intro v hv; simp at hv; rcases hv with rfl | rfl | rfl | rfl <;> rfl) rfl ?_
  obtain ⟨h1, h1l⟩ := hbk a (by omega)
  obtain ⟨h2, h2l⟩ := hbk (32 + b) (by omega)
  obtain ⟨h3, h3l⟩ := hbk (64 + c) (by omega)
  have l1 : (bk a &&& bk (32 + b) &&& bk (64 + c)) < 256 := Nat.lt_of_le_of_lt Nat.and_le_right h3l
  refine e_aload_0 dX4_deciding_0 rfl ?_
  refine e_getR dX4_deciding_1 rfl lkX4_62 rfl ps_64 (by decide) (by decide) (mr_of hmr rfl) ?_
  refine e_iload_1 dX4_deciding_4 rfl ?_
  refine e_iald dX4_deciding_5 rfl ps_82 (by decide) rfl (by omega) ?_
  refine e_topi (nI (bk a)) h1 ?_
  refine e_aload_0 dX4_deciding_6 rfl ?_
  refine e_getR dX4_deciding_7 rfl lkX4_62 rfl ps_64 (by decide) (by decide) (mr_of hmr rfl) ?_
  refine e_bipush (v := nI 32) dX4_deciding_10 rfl bc_32 ?_
  refine e_iload_2 dX4_deciding_12 rfl ?_
  refine e_iadd dX4_deciding_13 rfl ?_
  refine e_topi (nI (32 + b)) (nI_add _ _) ?_
  refine e_iald dX4_deciding_14 rfl ps_82 (by decide) rfl (by omega) ?_
  refine e_topi (nI (bk (32 + b))) h2 ?_
  refine e_iand dX4_deciding_15 rfl ?_
  refine e_topi (nI (bk a &&& bk (32 + b))) (nI_and (by omega) (by omega)) ?_
  refine e_aload_0 dX4_deciding_16 rfl ?_
  refine e_getR dX4_deciding_17 rfl lkX4_62 rfl ps_64 (by decide) (by decide) (mr_of hmr rfl) ?_
  refine e_bipush (v := nI 64) dX4_deciding_20 rfl bc_64 ?_
  refine e_iload_3 dX4_deciding_22 rfl ?_
  refine e_iadd dX4_deciding_23 rfl ?_
  refine e_topi (nI (64 + c)) (nI_add _ _) ?_
  refine e_iald dX4_deciding_24 rfl ps_82 (by decide) rfl (by omega) ?_
  refine e_topi (nI (bk (64 + c))) h3 ?_
  refine e_iand dX4_deciding_25 rfl ?_
  refine e_topi (nI (bk a &&& bk (32 + b) &&& bk (64 + c))) (and3 h1l h2l h3l) ?_
  refine e_istore_4 dX4_deciding_26 rfl (Nat.le_of_ble_eq_true rfl) rfl ?_
  refine e_iconst (v := nI 0) dX4_deciding_28 rfl ic_0 ?_
  refine e_istore_5 dX4_deciding_29 rfl (Nat.le_of_ble_eq_true rfl) rfl ?_
  refine loop_up (P := fun i => Ev l kX4_deciding (gM 86 0 0 (.inl (some (.int (-1)))) M) (rmd 0 0 0) 86 0 0 31 [some (.ref 64), some (.int (nI a)), some (.int (nI b)), some (.int (nI c)), some (.int (nI (bk a &&& bk (32 + b) &&& bk (64 + c)))), some (.int (nI i))] [] M) ?_ (fun i hi ih => ?_) 0 (Nat.zero_le rc)
  · refine e_iload_5 dX4_deciding_31 rfl ?_
    refine e_aload_0 dX4_deciding_33 rfl ?_
    refine e_getI dX4_deciding_34 rfl lkX4_79 rfl ps_64 (by decide) (by decide) ?_
    refine e_topi (nI rc) hmc ?_
    refine e_nc_ge_t (tgt := 60) dX4_deciding_37 (by decide) (by omega) (by omega) (Nat.le_refl _) ?_
    refine e_iconst (v := -1) dX4_deciding_60 rfl ic_m1 ?_
    exact e_iret dX4_deciding_61 rfl rfl (Nat.le_of_ble_eq_true rfl) (Nat.le_of_ble_eq_true rfl) rfl rfl
  · refine e_iload_5 dX4_deciding_31 rfl ?_
    refine e_aload_0 dX4_deciding_33 rfl ?_
    refine e_getI dX4_deciding_34 rfl lkX4_79 rfl ps_64 (by decide) (by decide) ?_
    refine e_topi (nI rc) hmc ?_
    refine e_nc_ge_f dX4_deciding_37 rfl ⟨60, by decide⟩ (by omega) (by omega) (by omega) ?_
    refine e_iload_4 dX4_deciding_40 rfl ?_
    refine e_iload_5 dX4_deciding_42 rfl ?_
    refine e_ishr dX4_deciding_44 rfl ?_
    refine e_iconst (v := nI 1) dX4_deciding_45 rfl ic_1 ?_
    refine e_iand dX4_deciding_46 rfl ?_
    refine e_iconst (v := nI 1) dX4_deciding_47 rfl ic_1 ?_
    refine e_ic_ne_t (tgt := 54) dX4_deciding_48 (by decide) (shr_n1 _ (by omega) ((hasb_nI l1 (by omega)).trans (hn i hi))) ?_
    refine e_iinc_5 (v := nI (i + 1)) dX4_deciding_54 rfl (Nat.le_of_ble_eq_true rfl) rfl (nI_1 i) ?_
    refine e_goto (tgt := 31) dX4_deciding_57 (by decide) ?_
    exact ih
theorem m_isPacket_y {l : Launch} (hf : l.stackTraces = false) {M : pmM} {a b c : Nat} (ha : a < 32) (hb : b < 32) (hc : c < 32) : Sp l kX4_isPacket 86 1 0 0 [.int (nI a), .int (nI b), .int (nI c)] M (.inl (some (.int (nI 1)))) M := by
  refine sp_of hf (by decide +kernel) (Nat.le_of_ble_eq_true rfl) (by intro v hv; simp at hv; rcases hv with rfl | rfl | rfl <;> rfl) rfl ?_
  refine e_iload_0 dX4_isPacket_0 rfl ?_
  refine e_iconst (v := nI 0) dX4_isPacket_1 rfl ic_0 ?_
  refine e_bipush (v := nI 31) dX4_isPacket_2 rfl bc_31 ?_
  refine e_callS dX4_isPacket_4 rfl csX4_75 (m_in_t hf (nI_le (Nat.zero_le a) (by omega)) (nI_le (show a ≤ 31 by omega) (by omega))) rfl rfl ⟨Nat.le_of_ble_eq_true rfl, Nat.le_of_ble_eq_true rfl⟩ ⟨Nat.le_of_ble_eq_true rfl, Nat.le_of_ble_eq_true rfl⟩ rfl rfl (Nat.le_of_ble_eq_true rfl) ?_
  refine e_if_eq_f dX4_isPacket_7 rfl ⟨34, by decide⟩ (by decide) ?_
  refine e_iload_1 dX4_isPacket_10 rfl ?_
  refine e_iconst (v := nI 0) dX4_isPacket_11 rfl ic_0 ?_
  refine e_bipush (v := nI 31) dX4_isPacket_12 rfl bc_31 ?_
  refine e_callS dX4_isPacket_14 rfl csX4_75 (m_in_t hf (nI_le (Nat.zero_le b) (by omega)) (nI_le (show b ≤ 31 by omega) (by omega))) rfl rfl ⟨Nat.le_of_ble_eq_true rfl, Nat.le_of_ble_eq_true rfl⟩ ⟨Nat.le_of_ble_eq_true rfl, Nat.le_of_ble_eq_true rfl⟩ rfl rfl (Nat.le_of_ble_eq_true rfl) ?_
  refine e_if_eq_f dX4_isPacket_17 rfl ⟨34, by decide⟩ (by decide) ?_
  refine e_iload_2 dX4_isPacket_20 rfl ?_
  refine e_iconst (v := nI 0) dX4_isPacket_21 rfl ic_0 ?_
  refine e_bipush (v := nI 31) dX4_isPacket_22 rfl bc_31 ?_
  refine e_callS dX4_isPacket_24 rfl csX4_75 (m_in_t hf (nI_le (Nat.zero_le c) (by omega)) (nI_le (show c ≤ 31 by omega) (by omega))) rfl rfl ⟨Nat.le_of_ble_eq_true rfl, Nat.le_of_ble_eq_true rfl⟩ ⟨Nat.le_of_ble_eq_true rfl, Nat.le_of_ble_eq_true rfl⟩ rfl rfl (Nat.le_of_ble_eq_true rfl) ?_
  refine e_if_eq_f dX4_isPacket_27 rfl ⟨34, by decide⟩ (by decide) ?_
  refine e_iconst (v := nI 1) dX4_isPacket_30 rfl ic_1 ?_
  refine e_goto (tgt := 35) dX4_isPacket_31 (by decide) ?_
  exact e_iret dX4_isPacket_35 rfl rfl (Nat.le_of_ble_eq_true rfl) (Nat.le_of_ble_eq_true rfl) rfl rfl
theorem in32_n {x : Int32} (h : ¬ vp_in x 32) : ¬ (nI 0 ≤ x ∧ x ≤ nI 31) := fun q => inE_n h (by decide) ⟨q.1, by rw [pk_sub (by decide)]; exact q.2⟩
theorem m_isPacket_n {l : Launch} (hf : l.stackTraces = false) {M : pmM} {x y z : Int32} (hx : ¬ (vp_in x 32 ∧ vp_in y 32 ∧ vp_in z 32)) : Sp l kX4_isPacket 86 1 0 0 [.int x, .int y, .int z] M (.inl (some (.int (nI 0)))) M := by
  refine sp_of hf (by decide +kernel) (Nat.le_of_ble_eq_true rfl) (by intro v hv; simp at hv; rcases hv with rfl | rfl | rfl <;> rfl) rfl ?_
  by_cases h1 : vp_in x 32
  · obtain ⟨a, ha, rfl⟩ := vp_in_of h1 (by decide)
    by_cases h2 : vp_in y 32
    · obtain ⟨b, hb, rfl⟩ := vp_in_of h2 (by decide)
      have h3 : ¬ vp_in z 32 := fun h => hx ⟨h1, h2, h⟩
      refine e_iload_0 dX4_isPacket_0 rfl ?_
      refine e_iconst (v := nI 0) dX4_isPacket_1 rfl ic_0 ?_
      refine e_bipush (v := nI 31) dX4_isPacket_2 rfl bc_31 ?_
      refine e_callS dX4_isPacket_4 rfl csX4_75 (m_in_t hf (nI_le (Nat.zero_le a) (by omega)) (nI_le (show a ≤ 31 by omega) (by omega))) rfl rfl ⟨Nat.le_of_ble_eq_true rfl, Nat.le_of_ble_eq_true rfl⟩ ⟨Nat.le_of_ble_eq_true rfl, Nat.le_of_ble_eq_true rfl⟩ rfl rfl (Nat.le_of_ble_eq_true rfl) ?_
      refine e_if_eq_f dX4_isPacket_7 rfl ⟨34, by decide⟩ (by decide) ?_
      refine e_iload_1 dX4_isPacket_10 rfl ?_
      refine e_iconst (v := nI 0) dX4_isPacket_11 rfl ic_0 ?_
      refine e_bipush (v := nI 31) dX4_isPacket_12 rfl bc_31 ?_
      refine e_callS dX4_isPacket_14 rfl csX4_75 (m_in_t hf (nI_le (Nat.zero_le b) (by omega)) (nI_le (show b ≤ 31 by omega) (by omega))) rfl rfl ⟨Nat.le_of_ble_eq_true rfl, Nat.le_of_ble_eq_true rfl⟩ ⟨Nat.le_of_ble_eq_true rfl, Nat.le_of_ble_eq_true rfl⟩ rfl rfl (Nat.le_of_ble_eq_true rfl) ?_
      refine e_if_eq_f dX4_isPacket_17 rfl ⟨34, by decide⟩ (by decide) ?_
      refine e_iload_2 dX4_isPacket_20 rfl ?_
      refine e_iconst (v := nI 0) dX4_isPacket_21 rfl ic_0 ?_
      refine e_bipush (v := nI 31) dX4_isPacket_22 rfl bc_31 ?_
      refine e_callS dX4_isPacket_24 rfl csX4_75 (m_in_f hf (in32_n h3)) rfl rfl ⟨Nat.le_of_ble_eq_true rfl, Nat.le_of_ble_eq_true rfl⟩ ⟨Nat.le_of_ble_eq_true rfl, Nat.le_of_ble_eq_true rfl⟩ rfl rfl (Nat.le_of_ble_eq_true rfl) ?_
      refine e_if_eq_t (tgt := 34) dX4_isPacket_27 (by decide) (by decide) ?_
      refine e_iconst (v := nI 0) dX4_isPacket_34 rfl ic_0 ?_
      exact e_iret dX4_isPacket_35 rfl rfl (Nat.le_of_ble_eq_true rfl) (Nat.le_of_ble_eq_true rfl) rfl rfl
    · refine e_iload_0 dX4_isPacket_0 rfl ?_
      refine e_iconst (v := nI 0) dX4_isPacket_1 rfl ic_0 ?_
      refine e_bipush (v := nI 31) dX4_isPacket_2 rfl bc_31 ?_
      refine e_callS dX4_isPacket_4 rfl csX4_75 (m_in_t hf (nI_le (Nat.zero_le a) (by omega)) (nI_le (show a ≤ 31 by omega) (by omega))) rfl rfl ⟨Nat.le_of_ble_eq_true rfl, Nat.le_of_ble_eq_true rfl⟩ ⟨Nat.le_of_ble_eq_true rfl, Nat.le_of_ble_eq_true rfl⟩ rfl rfl (Nat.le_of_ble_eq_true rfl) ?_
      refine e_if_eq_f dX4_isPacket_7 rfl ⟨34, by decide⟩ (by decide) ?_
      refine e_iload_1 dX4_isPacket_10 rfl ?_
      refine e_iconst (v := nI 0) dX4_isPacket_11 rfl ic_0 ?_
      refine e_bipush (v := nI 31) dX4_isPacket_12 rfl bc_31 ?_
      refine e_callS dX4_isPacket_14 rfl csX4_75 (m_in_f hf (in32_n h2)) rfl rfl ⟨Nat.le_of_ble_eq_true rfl, Nat.le_of_ble_eq_true rfl⟩ ⟨Nat.le_of_ble_eq_true rfl, Nat.le_of_ble_eq_true rfl⟩ rfl rfl (Nat.le_of_ble_eq_true rfl) ?_
      refine e_if_eq_t (tgt := 34) dX4_isPacket_17 (by decide) (by decide) ?_
      refine e_iconst (v := nI 0) dX4_isPacket_34 rfl ic_0 ?_
      exact e_iret dX4_isPacket_35 rfl rfl (Nat.le_of_ble_eq_true rfl) (Nat.le_of_ble_eq_true rfl) rfl rfl
  · refine e_iload_0 dX4_isPacket_0 rfl ?_
    refine e_iconst (v := nI 0) dX4_isPacket_1 rfl ic_0 ?_
    refine e_bipush (v := nI 31) dX4_isPacket_2 rfl bc_31 ?_
    refine e_callS dX4_isPacket_4 rfl csX4_75 (m_in_f hf (in32_n h1)) rfl rfl ⟨Nat.le_of_ble_eq_true rfl, Nat.le_of_ble_eq_true rfl⟩ ⟨Nat.le_of_ble_eq_true rfl, Nat.le_of_ble_eq_true rfl⟩ rfl rfl (Nat.le_of_ble_eq_true rfl) ?_
    refine e_if_eq_t (tgt := 34) dX4_isPacket_7 (by decide) (by decide) ?_
    refine e_iconst (v := nI 0) dX4_isPacket_34 rfl ic_0 ?_
    exact e_iret dX4_isPacket_35 rfl rfl (Nat.le_of_ble_eq_true rfl) (Nat.le_of_ble_eq_true rfl) rfl rfl
