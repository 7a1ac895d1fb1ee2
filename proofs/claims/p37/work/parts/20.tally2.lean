/-! ===== FilterRules: the tally ===== -/
theorem sumN_mul (d : Nat) (g : Nat → Nat) : ∀ n, sumN n (fun i => d * g i) = d * sumN n g
  | 0 => rfl
  | n + 1 => by rw [sumN, sumN, sumN_mul d g n, Nat.mul_add]
theorem sumN_zero : ∀ n, sumN n (fun _ => 0) = 0
  | 0 => rfl
  | n + 1 => by rw [sumN, sumN_zero n]
theorem itM_0 (f : Nat → pmM → pmM) (M : pmM) : itM f 0 M = M := rfl
theorem itM_s (f : Nat → pmM → pmM) (n : Nat) (M : pmM) : itM f (n + 1) M = f n (itM f n M) := rfl
def zrS (i : Nat) (M : pmM) : pmM := fillM M (6 + i) 9 (nI 0)
def zrM (M : pmM) : pmM := itM zrS 9 M
theorem zrS_TX {i : Nat} (h : i < 9) (M : pmM) : TX M (zrS i M) := ⟨rfl, fun b j q => if_neg (fun e => q (by omega))⟩
theorem zr_TX (M : pmM) : ∀ n, n ≤ 9 → TX M (itM zrS n M)
  | 0, _ => TX.rf M
  | n + 1, hn => (zr_TX M n (by omega)).tr (zrS_TX (by omega) _)
theorem zr_at (M : pmM) {a b : Nat} (hb : b < 9) : ∀ n, a < n → (itM zrS n M).1 (6 + a) b = nI 0
  | 0, h => absurd h (Nat.not_lt_zero _)
  | n + 1, h => by
    show (if 6 + a = 6 + n ∧ b < 9 then nI 0 else (itM zrS n M).1 (6 + a) b) = nI 0
    by_cases q : a = n
    · rw [if_pos ⟨by omega, hb⟩]
    · rw [if_neg (fun z => q (by omega))]; exact zr_at M hb n (by omega)
theorem zr_0 (f : Nat → pmM → pmM) (M : pmM) : itM zrS 9 M = itM f 0 (zrM M) := by rw [itM_0]; rfl
/-- one field: the marks, then the groups -/
def g3S (od : Nat → Nat) (rc : Nat) (ob fv : Int32) (f : Nat) (M : pmM) : pmM := gvM f (mvM od rc f ob fv M)
theorem g3_GX (od : Nat → Nat) (rc : Nat) (ob fv : Int32) (f : Nat) (M : pmM) : GX f M (g3S od rc ob fv f M) := (mv_MX od f ob fv M rc).GX.tr (gv_GX f _ 32)
theorem GX.SX {f : Nat} {M M' : pmM} (hf : f < 3) (h : GX f M M') : SX M M' := ⟨h.1, fun a k q => h.2 a k (fun z => q (Or.inl z)) (fun z => q (by unfold scr; omega))⟩
theorem g3_SX (od : Nat → Nat) (rc : Nat) (ob fv : Int32) (M : pmM) : ∀ n, n ≤ 3 → SX M (itM (g3S od rc ob fv) n M)
  | 0, _ => SX.rf M
  | n + 1, hn => by
    have a := g3_SX od rc ob fv M n (by omega)
    rw [itM_s]
    generalize itM (g3S od rc ob fv) n M = Q at a ⊢
    exact a.tr (GX.SX (show n < 3 by omega) (g3_GX od rc ob fv n Q))
theorem g3_GI {M Q : pmM} {od : Nat → Nat} {rc : Nat} {ob fv : Int32} (hS : SX M Q) (hod : ∀ p, p < 8 → od p < 8) (h8 : rc ≤ 8) (hfo : ∀ p f, p < rc → f < 3 → fOk (M.1 (32 + 3 * od p) f)) : ∀ n, n ≤ 3 → ∀ f, f < n → ∃ c gm gs, GI f (mkN M od rc f ob fv) 32 (itM (g3S od rc ob fv) n Q) c gm gs
  | 0, _, f, h => absurd h (Nat.not_lt_zero f)
  | n + 1, hn, f, h => by
    have hS2 := hS.tr (g3_SX od rc ob fv Q n (by omega))
    rw [itM]
    by_cases q : f = n
    · subst q
      generalize itM (g3S od rc ob fv) f Q = P at hS2
      have hfoP : ∀ p g, p < rc → g < 3 → fOk (P.1 (32 + 3 * od p) g) := fun p g h1 h2 => by
        rw [hS2.2 _ _ (by have := hod p (by omega); unfold scr; omega)]; exact hfo p g h1 h2
      have hf3 : f < 3 := by omega
      have hmv : ∀ v, v < 32 → (mvM od rc f ob fv P).1 4 v = nI (mkN M od rc f ob fv v) ∧ mkN M od rc f ob fv v < 65536 := fun v hv => ⟨by rw [mvM_val hod h8 hfoP hf3 hv, mkN_congr hS2 hod h8 hfo hf3], mkB_lt _ _ h8⟩
      rw [g3S, gvM]
      generalize mvM od rc f ob fv P = P2 at hmv ⊢
      exact gv_GI hf3 hmv 32 (Nat.le_refl 32)
    · obtain ⟨c, gm, gs, hg⟩ := g3_GI (ob := ob) (fv := fv) hS hod h8 hfo n (by omega) f (by omega)
      exact ⟨c, gm, gs, GI_keep (fun z => q z.symm) (g3_GX od rc ob fv n _) hg⟩
def cnG (M : pmM) (f : Nat) : Nat := ixN (M.1 (55 + 3 * f) 2)
theorem GI.cn {f n c : Nat} {mk gm gs : Nat → Nat} {M : pmM} (g : GI f mk n M c gm gs) (hn : n ≤ 32) : cnG M f = c := by
  have := g.1
  unfold cnG
  rw [g.2.1, ixN_n (by omega)]
def tdS (c2 i j : Nat) (M : pmM) : pmM := if M.1 56 i &&& M.1 59 j = 0 then M else itM (tsS (M.1 56 i &&& M.1 59 j) (M.1 57 i * M.1 60 j)) c2 M
def tdR (c1 c2 i : Nat) (M : pmM) : pmM := itM (tdS c2 i) c1 M
def tdG (od : Nat → Nat) (rc : Nat) (ob fv : Int32) (M : pmM) : pmM := itM (g3S od rc ob fv) 3 (zrM M)
def tdM (od : Nat → Nat) (rc : Nat) (ob fv : Int32) (M : pmM) : pmM := itM (tdR (cnG (tdG od rc ob fv M) 1) (cnG (tdG od rc ob fv M) 2)) (cnG (tdG od rc ob fv M) 0) (tdG od rc ob fv M)
theorem tdS_TX (c2 i j : Nat) (M : pmM) : TX M (tdS c2 i j M) := by
  unfold tdS
  split
  · exact TX.rf M
  · exact TX.it (tsS_TX _ _) M c2
theorem tdR_TX (c1 c2 i : Nat) (M : pmM) : TX M (tdR c1 c2 i M) := TX.it (tdS_TX c2 i) M c1
theorem tdG_SX (od : Nat → Nat) (rc : Nat) (ob fv : Int32) (M : pmM) : SX M (tdG od rc ob fv M) := (zr_TX M 9 (Nat.le_refl 9)).SX.tr (g3_SX od rc ob fv _ 3 (Nat.le_refl 3))
theorem tdM_SX (od : Nat → Nat) (rc : Nat) (ob fv : Int32) (M : pmM) : SX M (tdM od rc ob fv M) := (tdG_SX od rc ob fv M).tr (TX.it (tdR_TX _ _) _ _).SX
theorem tdG_0 {M : pmM} {od : Nat → Nat} {rc : Nat} {ob fv : Int32} {a b : Nat} (ha : a < 9) (hb : b < 9) : (tdG od rc ob fv M).1 (6 + a) b = nI 0 := by
  have h : ∀ n, n ≤ 3 → (itM (g3S od rc ob fv) n (zrM M)).1 (6 + a) b = nI 0 := by
    intro n
    induction n with
    | zero => intro _; show (zrM M).1 (6 + a) b = nI 0; unfold zrM; exact zr_at M hb 9 ha
    | succ n ih => intro hn; rw [itM, (g3_GX od rc ob fv n _).2 _ _ (by omega) (by omega)]; exact ih (by omega)
  unfold tdG
  exact h 3 (Nat.le_refl 3)
/-- who decides, by the marks -/
def tI (a b m : Nat) : Nat := if fo (m % 256) = a ∧ fo (m / 256) = b then 1 else 0
theorem ts_val {mk2 gm gs : Nat → Nat} {n2 c m s a b : Nat} {Q : pmM} (hm : m < 65536) (g : GI 2 mk2 n2 Q c gm gs) (hb : b < 9) (ha : a < 9) : ∀ n, n ≤ c → (itM (tsS (nI m) (nI s)) n Q).1 (6 + a) b = Q.1 (6 + a) b + nI (sumN n (fun k => s * (gs k * tI a b (m &&& gm k))))
  | 0, _ => by show _ = _ + nI 0; rw [nI_0, Int32.add_zero]; rfl
  | n + 1, hn => by
    have ih := ts_val (s := s) hm g hb ha n (by omega)
    have gT := (TX.it (tsS_TX (nI m) (nI s)) Q n).GI g
    rw [itM]
    generalize itM (tsS (nI m) (nI s)) n Q = P at ih gT ⊢
    obtain ⟨g1, g2, g3⟩ := gT.2.2.1 n (by omega)
    have g1 : P.1 62 n = nI (gm n) := g1
    have g3 : P.1 63 n = nI (gs n) := g3
    have hA : m &&& gm n < 65536 := Nat.lt_of_le_of_lt Nat.and_le_left hm
    unfold tsS
    rw [g1, nI_and (by omega) (by omega), tN_nI (show m &&& gm n < 2 ^ 32 by omega), g3, pk_mul]
    show pm2 _ _ _ _ _ _ = _
    rw [pm2_at, sumN]
    by_cases q : fo ((m &&& gm n) % 256) = a ∧ fo ((m &&& gm n) / 256) = b
    · rw [if_pos ⟨by omega, q.2.symm⟩, q.1, q.2, ih, tI, if_pos q, Int32.add_assoc, nI_add, Nat.mul_one]
    · rw [if_neg (fun z => q ⟨by omega, z.2.symm⟩), ih, tI, if_neg q, Nat.mul_zero, Nat.mul_zero, Nat.add_zero]
def tlC (m2 : Nat → Nat) (a b x : Nat) : Nat := if x = 0 then 0 else sumN 32 (fun w => tI a b (x &&& m2 w))
/-- how many packets the one decides now and the other then -/
def tlN (m0 m1 m2 : Nat → Nat) (a b : Nat) : Nat := sumN 32 (fun u => sumN 32 (fun v => tlC m2 a b (m0 u &&& m1 v)))
section TLV
variable {mk0 mk1 mk2 gm0 gs0 gm1 gs1 gm2 gs2 : Nat → Nat} {c0 c1 c2 a b : Nat}
theorem tdS_val {Q : pmM} (g0 : GI 0 mk0 32 Q c0 gm0 gs0) (g1 : GI 1 mk1 32 Q c1 gm1 gs1) (g2 : GI 2 mk2 32 Q c2 gm2 gs2) (ha : a < 9) (hb : b < 9) {i j : Nat} (hi : i < c0) (hj : j < c1) : (tdS c2 i j Q).1 (6 + a) b = Q.1 (6 + a) b + nI (gs0 i * (gs1 j * tlC mk2 a b (gm0 i &&& gm1 j))) := by
  obtain ⟨x1, x2, x3⟩ := g0.2.2.1 i hi
  obtain ⟨y1, y2, y3⟩ := g1.2.2.1 j hj
  have x1 : Q.1 56 i = nI (gm0 i) := x1
  have x3 : Q.1 57 i = nI (gs0 i) := x3
  have y1 : Q.1 59 j = nI (gm1 j) := y1
  have y3 : Q.1 60 j = nI (gs1 j) := y3
  have hA : gm0 i &&& gm1 j < 65536 := Nat.lt_of_le_of_lt Nat.and_le_left x2
  unfold tdS
  rw [x1, x3, y1, y3, nI_and (by omega) (by omega), pk_mul]
  unfold tlC
  by_cases h : gm0 i &&& gm1 j = 0
  · rw [if_pos (by rw [h]; rfl), if_pos h, Nat.mul_zero, Nat.mul_zero, nI_0, Int32.add_zero]
  · rw [if_neg (nI_ne0 (by omega) (by omega)), if_neg h, ts_val hA g2 hb ha c2 (Nat.le_refl _), sumN_mul, Nat.mul_assoc]
    have e := g2.2.2.2 (fun x => tI a b ((gm0 i &&& gm1 j) &&& x))
    rw [show sumN c2 (fun k => gs2 k * tI a b (gm0 i &&& gm1 j &&& gm2 k)) = sumN 32 (fun w => tI a b (gm0 i &&& gm1 j &&& mk2 w)) from e]
theorem tdR_val {Q : pmM} (g0 : GI 0 mk0 32 Q c0 gm0 gs0) (g1 : GI 1 mk1 32 Q c1 gm1 gs1) (g2 : GI 2 mk2 32 Q c2 gm2 gs2) (ha : a < 9) (hb : b < 9) {i : Nat} (hi : i < c0) : ∀ n, n ≤ c1 → (itM (tdS c2 i) n Q).1 (6 + a) b = Q.1 (6 + a) b + nI (sumN n (fun j => gs0 i * (gs1 j * tlC mk2 a b (gm0 i &&& gm1 j))))
  | 0, _ => by show _ = _ + nI 0; rw [nI_0, Int32.add_zero]; rfl
  | n + 1, hn => by
    have ih := tdR_val g0 g1 g2 ha hb hi n (by omega)
    have hT := TX.it (tdS_TX c2 i) Q n
    rw [itM, tdS_val (hT.GI g0) (hT.GI g1) (hT.GI g2) ha hb hi (by omega), ih, Int32.add_assoc, nI_add, sumN]
theorem td_val0 {Q : pmM} (g0 : GI 0 mk0 32 Q c0 gm0 gs0) (g1 : GI 1 mk1 32 Q c1 gm1 gs1) (g2 : GI 2 mk2 32 Q c2 gm2 gs2) (ha : a < 9) (hb : b < 9) : ∀ n, n ≤ c0 → (itM (tdR c1 c2) n Q).1 (6 + a) b = Q.1 (6 + a) b + nI (sumN n (fun i => sumN c1 (fun j => gs0 i * (gs1 j * tlC mk2 a b (gm0 i &&& gm1 j)))))
  | 0, _ => by show _ = _ + nI 0; rw [nI_0, Int32.add_zero]; rfl
  | n + 1, hn => by
    have ih := td_val0 g0 g1 g2 ha hb n (by omega)
    have hT := TX.it (tdR_TX c1 c2) Q n
    rw [itM, tdR, tdR_val (hT.GI g0) (hT.GI g1) (hT.GI g2) ha hb (show n < c0 by omega) c1 (Nat.le_refl _), ih, Int32.add_assoc, nI_add]
    rfl
theorem tl_sum (m0 m1 : Nat → Nat) {Q0 Q1 : pmM} (g0 : GI 0 mk0 32 Q0 c0 gm0 gs0) (g1 : GI 1 mk1 32 Q1 c1 gm1 gs1) (F : Nat → Nat) : sumN c0 (fun i => sumN c1 (fun j => gs0 i * (gs1 j * F (gm0 i &&& gm1 j)))) = sumN 32 (fun u => sumN 32 (fun v => F (mk0 u &&& mk1 v))) := by
  have e1 : sumN c0 (fun i => sumN c1 (fun j => gs0 i * (gs1 j * F (gm0 i &&& gm1 j)))) = sumN c0 (fun i => gs0 i * sumN 32 (fun v => F (gm0 i &&& mk1 v))) := sumN_congr c0 (fun i hi => by
    rw [sumN_mul, show sumN c1 (fun j => gs1 j * F (gm0 i &&& gm1 j)) = sumN 32 (fun v => F (gm0 i &&& mk1 v)) from g1.2.2.2 (fun x => F (gm0 i &&& x))])
  rw [e1]
  exact g0.2.2.2 (fun x => sumN 32 (fun v => F (x &&& mk1 v)))
end TLV
theorem td_val {M : pmM} {od : Nat → Nat} {rc : Nat} {ob fv : Int32} (hod : ∀ p, p < 8 → od p < 8) (h8 : rc ≤ 8) (hfo : ∀ p f, p < rc → f < 3 → fOk (M.1 (32 + 3 * od p) f)) {a b : Nat} (ha : a < 9) (hb : b < 9) : (tdM od rc ob fv M).1 (6 + a) b = nI (tlN (mkN M od rc 0 ob fv) (mkN M od rc 1 ob fv) (mkN M od rc 2 ob fv) a b) := by
  have hZ := (zr_TX M 9 (Nat.le_refl 9)).SX
  have hG := g3_GI (ob := ob) (fv := fv) hZ hod h8 hfo 3 (Nat.le_refl 3)
  obtain ⟨c0, gm0, gs0, g0⟩ := hG 0 (by decide)
  obtain ⟨c1, gm1, gs1, g1⟩ := hG 1 (by decide)
  obtain ⟨c2, gm2, gs2, g2⟩ := hG 2 (by decide)
  have e0 := g0.cn (Nat.le_refl 32)
  have e1 := g1.cn (Nat.le_refl 32)
  have e2 := g2.cn (Nat.le_refl 32)
  unfold tdM
  rw [show cnG (tdG od rc ob fv M) 0 = c0 from e0, show cnG (tdG od rc ob fv M) 1 = c1 from e1, show cnG (tdG od rc ob fv M) 2 = c2 from e2]
  rw [td_val0 (Q := tdG od rc ob fv M) g0 g1 g2 ha hb c0 (Nat.le_refl _), tdG_0 ha hb, nI_0, Int32.zero_add]
  unfold tlN
  rw [tl_sum (fun _ => 0) (fun _ => 0) g0 g1 (tlC (mkN M od rc 2 ob fv) a b)]
theorem s_tallyDeciders {l : Launch} (hf : l.stackTraces = false) {M : pmM} {od : Nat → Nat} (hmr : M.2.1 = mrC od) (hod : ∀ p, p < 8 → od p < 8) {rc : Nat} (hrc : M.1 0 3 = nI rc) (h8 : rc ≤ 8) (hfo : ∀ p f, p < rc → f < 3 → fOk (M.1 (32 + 3 * od p) f)) {ob fv : Int32} (hob : fv = 0 ∨ ∃ k : Nat, k < 8 ∧ ob = nI k) : Sp l kX3_tallyDeciders 64 12 0 0 [.ref 0, .int ob, .int fv] M (.inl none) (tdM od rc ob fv M) := by
  refine sp_of hf (by decide +kernel) (Nat.le_of_ble_eq_true rfl) (by intro v hv; simp at hv; rcases hv with rfl | rfl | rfl <;> rfl) rfl ?_
  refine e_iconst (v := nI 0) dX3_tallyDeciders_0 rfl ic_0 ?_
  refine e_istore_3 dX3_tallyDeciders_1 rfl (Nat.le_of_ble_eq_true rfl) rfl ?_
  refine loop_up (P := fun i => Ev l kX3_tallyDeciders (gM 64 0 0 (.inl none) (tdM od rc ob fv M)) (rmd 12 0 0) 64 0 0 2 [some (.ref 0), some (.int ob), some (.int fv), some (.int (nI i)), none, none, none, none] [] (itM zrS i M)) ?_ (fun i hi ih => ?_) 0 (Nat.zero_le 9)
  · refine e_iload_3 dX3_tallyDeciders_2 rfl ?_
    refine e_bipush (v := nI 9) dX3_tallyDeciders_3 rfl bc_9 ?_
    refine e_nc_ge_t (tgt := 24) dX3_tallyDeciders_5 (by decide) (by omega) (by omega) (Nat.le_refl 9) ?_
    refine e_iconst (v := nI 0) dX3_tallyDeciders_24 rfl ic_0 ?_
    refine e_istore_3 dX3_tallyDeciders_25 rfl (Nat.le_of_ble_eq_true rfl) rfl ?_
    have hZ := (zr_TX M 9 (Nat.le_refl 9)).SX
    refine e_mem (zr_0 (g3S od rc ob fv) M) ?_
    refine loop_up (P := fun i => Ev l kX3_tallyDeciders (gM 64 0 0 (.inl none) (tdM od rc ob fv M)) (rmd 12 0 0) 64 0 0 26 [some (.ref 0), some (.int ob), some (.int fv), some (.int (nI i)), none, none, none, none] [] (itM (g3S od rc ob fv) i (zrM M))) ?_ (fun i hi ih => ?_) 0 (Nat.zero_le 3)
    · have hS : SX M (tdG od rc ob fv M) := tdG_SX od rc ob fv M
      have hG := g3_GI (ob := ob) (fv := fv) hZ hod h8 hfo 3 (Nat.le_refl 3)
      obtain ⟨c0, gm0, gs0, g0⟩ := hG 0 (by decide)
      obtain ⟨c1, gm1, gs1, g1⟩ := hG 1 (by decide)
      obtain ⟨c2, gm2, gs2, g2⟩ := hG 2 (by decide)
      have e0 : cnG (tdG od rc ob fv M) 0 = c0 := g0.cn (Nat.le_refl 32)
      have e1 : cnG (tdG od rc ob fv M) 1 = c1 := g1.cn (Nat.le_refl 32)
      have e2 : cnG (tdG od rc ob fv M) 2 = c2 := g2.cn (Nat.le_refl 32)
      have eT : tdM od rc ob fv M = itM (tdR c1 c2) c0 (tdG od rc ob fv M) := by unfold tdM; rw [e0, e1, e2]
      rw [eT]
      change Ev l kX3_tallyDeciders (gM 64 0 0 (.inl none) (itM (tdR c1 c2) c0 (tdG od rc ob fv M))) (rmd 12 0 0) 64 0 0 26 _ _ (tdG od rc ob fv M)
      have g0 : GI 0 (mkN M od rc 0 ob fv) 32 (tdG od rc ob fv M) c0 gm0 gs0 := g0
      have g1 : GI 1 (mkN M od rc 1 ob fv) 32 (tdG od rc ob fv M) c1 gm1 gs1 := g1
      have g2 : GI 2 (mkN M od rc 2 ob fv) 32 (tdG od rc ob fv M) c2 gm2 gs2 := g2
      generalize tdG od rc ob fv M = Q at hS g0 g1 g2 ⊢
      have hq : Q.2.1 = mrC od := hS.mr hmr
      have hc0 := g0.1
      have hc1 := g1.1
      have hc2 := g2.1
      refine e_iload_3 dX3_tallyDeciders_26 rfl ?_
      refine e_iconst (v := nI 3) dX3_tallyDeciders_27 rfl ic_3 ?_
      refine e_nc_ge_t (tgt := 54) dX3_tallyDeciders_28 (by decide) (by omega) (by omega) (Nat.le_refl 3) ?_
      refine e_aload_0 dX3_tallyDeciders_54 rfl ?_
      refine e_getR dX3_tallyDeciders_55 rfl lkX3_23 rfl ps_0 (by decide) (by decide) (mr_of hq rfl) ?_
      refine e_iconst (v := nI 0) dX3_tallyDeciders_58 rfl ic_0 ?_
      refine e_aald dX3_tallyDeciders_59 rfl ps_3 (by decide) (by decide) (by decide) rfl (by omega) (mr_of hq (mr_groups _ _)) ?_
      refine e_astore_3 dX3_tallyDeciders_60 rfl (Nat.le_of_ble_eq_true rfl) rfl ?_
      refine e_aload_0 dX3_tallyDeciders_61 rfl ?_
      refine e_getR dX3_tallyDeciders_62 rfl lkX3_23 rfl ps_0 (by decide) (by decide) (mr_of hq rfl) ?_
      refine e_iconst (v := nI 1) dX3_tallyDeciders_65 rfl ic_1 ?_
      refine e_aald dX3_tallyDeciders_66 rfl ps_3 (by decide) (by decide) (by decide) rfl (by omega) (mr_of hq (mr_groups _ _)) ?_
      refine e_astore_4 dX3_tallyDeciders_67 rfl (Nat.le_of_ble_eq_true rfl) rfl ?_
      refine e_iconst (v := nI 0) dX3_tallyDeciders_69 rfl ic_0 ?_
      refine e_istore_5 dX3_tallyDeciders_70 rfl (Nat.le_of_ble_eq_true rfl) rfl ?_
      refine loop_up (P := fun i => Ev l kX3_tallyDeciders (gM 64 0 0 (.inl none) (itM (tdR c1 c2) c0 Q)) (rmd 12 0 0) 64 0 0 72 [some (.ref 0), some (.int ob), some (.int fv), some (.ref (55 + 3 * 0)), some (.ref (55 + 3 * 1)), some (.int (nI i)), none, none] [] (itM (tdR c1 c2) i Q)) ?_ (fun i hi ih => ?_) 0 (Nat.zero_le c0)
      · refine e_iload_5 dX3_tallyDeciders_72 rfl ?_
        refine e_aload_3 dX3_tallyDeciders_74 rfl ?_
        refine e_getI dX3_tallyDeciders_75 rfl lkX3_301 rfl (ps_g (by decide)) (by decide) (lt_GR (by decide)) ?_
        refine e_topi (nI c0) ((TX.it (tdR_TX c1 c2) Q c0).GI g0).2.1 ?_
        refine e_nc_ge_t (tgt := 151) dX3_tallyDeciders_78 (by decide) (by omega) (by omega) (Nat.le_refl _) ?_
        exact e_vret dX3_tallyDeciders_151 rfl (Nat.le_of_ble_eq_true rfl) (Nat.le_of_ble_eq_true rfl) rfl
      · have hT := TX.it (tdR_TX c1 c2) Q i
        generalize hR : itM (tdR c1 c2) i Q = R at hT ⊢
        have ih := e_mem ((congrArg (tdR c1 c2 i) hR.symm).trans (itM_s _ _ _).symm) ih
        have r0 := hT.GI g0
        have r1 := hT.GI g1
        have r2 := hT.GI g2
        refine e_iload_5 dX3_tallyDeciders_72 rfl ?_
        refine e_aload_3 dX3_tallyDeciders_74 rfl ?_
        refine e_getI dX3_tallyDeciders_75 rfl lkX3_301 rfl (ps_g (by decide)) (by decide) (lt_GR (by decide)) ?_
        refine e_topi (nI c0) r0.2.1 ?_
        refine e_nc_ge_f dX3_tallyDeciders_78 rfl ⟨151, by decide⟩ (by omega) (by omega) hi ?_
        refine e_iconst (v := nI 0) dX3_tallyDeciders_81 rfl ic_0 ?_
        refine e_istore_6 dX3_tallyDeciders_82 rfl (Nat.le_of_ble_eq_true rfl) rfl ?_
        refine loop_up (P := fun j => Ev l kX3_tallyDeciders (gM 64 0 0 (.inl none) (itM (tdR c1 c2) c0 Q)) (rmd 12 0 0) 64 0 0 84 [some (.ref 0), some (.int ob), some (.int fv), some (.ref (55 + 3 * 0)), some (.ref (55 + 3 * 1)), some (.int (nI i)), some (.int (nI j)), none] [] (itM (tdS c2 i) j R)) ?_ (fun j hj ih2 => ?_) 0 (Nat.zero_le c1)
        · refine e_iload_6 dX3_tallyDeciders_84 rfl ?_
          refine e_aload_4 dX3_tallyDeciders_86 rfl ?_
          refine e_getI dX3_tallyDeciders_88 rfl lkX3_301 rfl (ps_g (by decide)) (by decide) (lt_GR (by decide)) ?_
          refine e_topi (nI c1) ((TX.it (tdS_TX c2 i) R c1).GI r1).2.1 ?_
          refine e_nc_ge_t (tgt := 145) dX3_tallyDeciders_91 (by decide) (by omega) (by omega) (Nat.le_refl _) ?_
          refine e_iinc_5 (v := nI (i + 1)) dX3_tallyDeciders_145 rfl (Nat.le_of_ble_eq_true rfl) rfl (nI_1 i) ?_
          refine e_goto (tgt := 72) dX3_tallyDeciders_148 (by decide) ?_
          refine e_weak (weak_c (weak_c (weak_c (weak_c (weak_c (weak_c (weak_n weak_nil))))))) ?_
          exact ih
        · have hU := TX.it (tdS_TX c2 i) R j
          generalize hV : itM (tdS c2 i) j R = V at hU ⊢
          have ih2 := e_mem ((congrArg (tdS c2 i j) hV.symm).trans (itM_s _ _ _).symm) ih2
          have v0 := hU.GI r0
          have v1 := hU.GI r1
          have v2 := hU.GI r2
          have hv : V.2.1 = mrC od := (hU.SX.mr (hT.SX.mr hq))
          refine e_iload_6 dX3_tallyDeciders_84 rfl ?_
          refine e_aload_4 dX3_tallyDeciders_86 rfl ?_
          refine e_getI dX3_tallyDeciders_88 rfl lkX3_301 rfl (ps_g (by decide)) (by decide) (lt_GR (by decide)) ?_
          refine e_topi (nI c1) v1.2.1 ?_
          refine e_nc_ge_f dX3_tallyDeciders_91 rfl ⟨145, by decide⟩ (by omega) (by omega) hj ?_
          refine e_aload_3 dX3_tallyDeciders_94 rfl ?_
          refine e_getR dX3_tallyDeciders_95 rfl lkX3_304 rfl (ps_g (by decide)) (by decide) (lt_GR (by decide)) (mr_of hv (mr_g0 _ (by decide))) ?_
          refine e_iload_5 dX3_tallyDeciders_98 rfl ?_
          refine e_iald dX3_tallyDeciders_100 rfl (ps_gM (by decide)) (lt_GM (by decide)) rfl (by omega) ?_
          refine e_aload_4 dX3_tallyDeciders_101 rfl ?_
          refine e_getR dX3_tallyDeciders_103 rfl lkX3_304 rfl (ps_g (by decide)) (by decide) (lt_GR (by decide)) (mr_of hv (mr_g0 _ (by decide))) ?_
          refine e_iload_6 dX3_tallyDeciders_106 rfl ?_
          refine e_iald dX3_tallyDeciders_108 rfl (ps_gM (by decide)) (lt_GM (by decide)) rfl (by omega) ?_
          refine e_iand dX3_tallyDeciders_109 rfl ?_
          refine e_istore_7 dX3_tallyDeciders_110 rfl (Nat.le_of_ble_eq_true rfl) rfl ?_
          refine e_iload_7 dX3_tallyDeciders_112 rfl ?_
          by_cases hz : V.1 56 i &&& V.1 59 j = 0
          · have ih2 := e_mem (if_pos hz).symm ih2
            refine e_if_eq_t (tgt := 139) dX3_tallyDeciders_114 (by decide) hz ?_
            refine e_iinc_6 (v := nI (j + 1)) dX3_tallyDeciders_139 rfl (Nat.le_of_ble_eq_true rfl) rfl (nI_1 j) ?_
            refine e_goto (tgt := 84) dX3_tallyDeciders_142 (by decide) ?_
            refine e_weak (weak_c (weak_c (weak_c (weak_c (weak_c (weak_c (weak_c (weak_n weak_nil)))))))) ?_
            exact ih2
          · have ih2 := e_mem (if_neg hz).symm ih2
            have hmk : tN (V.1 56 i &&& V.1 59 j) < 65536 := tN_and (by rw [show V.1 56 i = nI (gm0 i) from (v0.2.2.1 i hi).1]; have := (v0.2.2.1 i hi).2.1; rw [tN_nI (by omega)]; exact this) _
            refine e_if_eq_f dX3_tallyDeciders_114 rfl ⟨139, by decide⟩ hz ?_
            refine e_aload_0 dX3_tallyDeciders_117 rfl ?_
            refine e_iload_7 dX3_tallyDeciders_118 rfl ?_
            refine e_aload_3 dX3_tallyDeciders_120 rfl ?_
            refine e_getR dX3_tallyDeciders_121 rfl lkX3_307 rfl (ps_g (by decide)) (by decide) (lt_GR (by decide)) (mr_of hv (mr_g1 _ (by decide))) ?_
            refine e_iload_5 dX3_tallyDeciders_124 rfl ?_
            refine e_iald dX3_tallyDeciders_126 rfl (ps_gS (by decide)) (lt_GS (by decide)) rfl (by omega) ?_
            refine e_aload_4 dX3_tallyDeciders_127 rfl ?_
            refine e_getR dX3_tallyDeciders_129 rfl lkX3_307 rfl (ps_g (by decide)) (by decide) (lt_GR (by decide)) (mr_of hv (mr_g1 _ (by decide))) ?_
            refine e_iload_6 dX3_tallyDeciders_132 rfl ?_
            refine e_iald dX3_tallyDeciders_134 rfl (ps_gS (by decide)) (lt_GS (by decide)) rfl (by omega) ?_
            refine e_imul dX3_tallyDeciders_135 rfl ?_
            refine e_callV dX3_tallyDeciders_136 rfl csX3_310 (s_tallyServices hf hv v2.2.1 (by omega) hmk) rfl rfl ps_0 (by decide) (by decide) ⟨Nat.le_of_ble_eq_true rfl, Nat.le_of_ble_eq_true rfl⟩ ⟨Nat.le_of_ble_eq_true rfl, Nat.le_of_ble_eq_true rfl⟩ rfl rfl (Nat.le_of_ble_eq_true rfl) ?_
            refine e_iinc_6 (v := nI (j + 1)) dX3_tallyDeciders_139 rfl (Nat.le_of_ble_eq_true rfl) rfl (nI_1 j) ?_
            refine e_goto (tgt := 84) dX3_tallyDeciders_142 (by decide) ?_
            refine e_weak (weak_c (weak_c (weak_c (weak_c (weak_c (weak_c (weak_c (weak_n weak_nil)))))))) ?_
            exact ih2
    · have hS := hZ.tr (g3_SX od rc ob fv (zrM M) i (by omega))
      generalize hR : itM (g3S od rc ob fv) i (zrM M) = R at hS ⊢
      have ih := e_mem ((congrArg (g3S od rc ob fv i) hR.symm).trans (itM_s _ _ _).symm) ih
      rw [g3S] at ih
      have hr : R.2.1 = mrC od := hS.mr hmr
      have hfr : ∀ p g, p < rc → g < 3 → fOk (R.1 (32 + 3 * od p) g) := fun p g h1 h2 => by rw [hS.2 _ _ (by have := hod p (by omega); unfold scr; omega)]; exact hfo p g h1 h2
      refine e_iload_3 dX3_tallyDeciders_26 rfl ?_
      refine e_iconst (v := nI 3) dX3_tallyDeciders_27 rfl ic_3 ?_
      refine e_nc_ge_f dX3_tallyDeciders_28 rfl ⟨54, by decide⟩ (by omega) (by omega) hi ?_
      refine e_aload_0 dX3_tallyDeciders_31 rfl ?_
      refine e_iload_3 dX3_tallyDeciders_32 rfl ?_
      refine e_iload_1 dX3_tallyDeciders_33 rfl ?_
      refine e_iload_2 dX3_tallyDeciders_34 rfl ?_
      refine e_callV dX3_tallyDeciders_35 rfl csX3_294 (s_markValues (M := R) hf hr hod ((hS.2 _ _ (by unfold scr; omega)).trans hrc) h8 hfr hi hob) rfl rfl ps_0 (by decide) (by decide) ⟨Nat.le_of_ble_eq_true rfl, Nat.le_of_ble_eq_true rfl⟩ ⟨Nat.le_of_ble_eq_true rfl, Nat.le_of_ble_eq_true rfl⟩ rfl rfl (Nat.le_of_ble_eq_true rfl) ?_
      have hr2 : (mvM od rc i ob fv R).2.1 = mrC od := (mv_MX od i ob fv R rc).SX.mr hr
      refine e_aload_0 dX3_tallyDeciders_38 rfl ?_
      refine e_aload_0 dX3_tallyDeciders_39 rfl ?_
      refine e_getR dX3_tallyDeciders_40 rfl lkX3_23 rfl ps_0 (by decide) (by decide) (mr_of hr2 rfl) ?_
      refine e_iload_3 dX3_tallyDeciders_43 rfl ?_
      refine e_aald dX3_tallyDeciders_44 rfl ps_3 (by decide) (by decide) (by decide) rfl (by omega) (mr_of hr2 (mr_groups _ _)) ?_
      refine e_callV dX3_tallyDeciders_45 rfl csX3_297 (s_groupValues (M := mvM od rc i ob fv R) hf hr2 hi) rfl rfl ps_0 (by decide) (by decide) ⟨Nat.le_of_ble_eq_true rfl, Nat.le_of_ble_eq_true rfl⟩ ⟨Nat.le_of_ble_eq_true rfl, Nat.le_of_ble_eq_true rfl⟩ rfl rfl (Nat.le_of_ble_eq_true rfl) ?_
      refine e_iinc_3 (v := nI (i + 1)) dX3_tallyDeciders_48 rfl (Nat.le_of_ble_eq_true rfl) rfl (nI_1 i) ?_
      refine e_goto (tgt := 26) dX3_tallyDeciders_51 (by decide) ?_
      exact ih
  · refine e_iload_3 dX3_tallyDeciders_2 rfl ?_
    refine e_bipush (v := nI 9) dX3_tallyDeciders_3 rfl bc_9 ?_
    refine e_nc_ge_f dX3_tallyDeciders_5 rfl ⟨24, by decide⟩ (by omega) (by omega) hi ?_
    refine e_aload_0 dX3_tallyDeciders_8 rfl ?_
    refine e_getR dX3_tallyDeciders_9 rfl lkX3_33 rfl ps_0 (by decide) (by decide) (mr_of ((zr_TX M i (Nat.le_of_lt hi)).SX.mr hmr) rfl) ?_
    refine e_iload_3 dX3_tallyDeciders_12 rfl ?_
    refine e_aald dX3_tallyDeciders_13 rfl ps_5 (by decide) (by decide) (by decide) rfl (by omega) (mr_of ((zr_TX M i (Nat.le_of_lt hi)).SX.mr hmr) (mr_tally _ _)) ?_
    refine e_iconst (v := nI 0) dX3_tallyDeciders_14 rfl ic_0 ?_
    refine e_callS dX3_tallyDeciders_15 rfl csX3_288 (s_fill hf (ps_T hi) (by omega)) rfl rfl ⟨Nat.le_of_ble_eq_true rfl, Nat.le_of_ble_eq_true rfl⟩ ⟨Nat.le_of_ble_eq_true rfl, Nat.le_of_ble_eq_true rfl⟩ rfl rfl (Nat.le_of_ble_eq_true rfl) ?_
    refine e_iinc_3 (v := nI (i + 1)) dX3_tallyDeciders_18 rfl (Nat.le_of_ble_eq_true rfl) rfl (nI_1 i) ?_
    refine e_goto (tgt := 2) dX3_tallyDeciders_21 (by decide) ?_
    exact ih
