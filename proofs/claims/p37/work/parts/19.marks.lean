/-! ===== the marks of the values, and their groups, in numbers ===== -/
theorem hasb_one (x : Int32) {k : Nat} (hk : k < 32) (h : hasb x k = true) : pmUs x (nI k) &&& nI 1 = nI 1 := by
  have e : (pmUs x (nI k) &&& nI 1).toBitVec = (x.toBitVec >>> k) &&& 1#32 := by
    rw [Int32.toBitVec_and, pmUs_bv x hk]; rfl
  apply Int32.toBitVec_inj.mp
  rw [e]
  apply BitVec.eq_of_getLsbD_eq
  intro i hi
  cases i with
  | zero =>
    have h' : x.toBitVec.getLsbD k = true := h
    show _ = (BitVec.ofNat 32 1).getLsbD 0
    simp [h']
  | succ i =>
    show _ = (BitVec.ofNat 32 1).getLsbD (i + 1)
    simp
theorem hasb_zero (x : Int32) {k : Nat} (hk : k < 32) (h : hasb x k = false) : pmUs x (nI k) &&& nI 1 = nI 0 := (hasb_iff x hk).mpr h
theorem bit_shl (x : Int32) {v k : Nat} (hv : v < 32) (hk : k < 16) : (pmUs x (nI v) &&& nI 1) <<< (nI k &&& 31) = nI (if hasb x v = true then 2 ^ k else 0) := by
  cases h : hasb x v with
  | true => rw [hasb_one x hv h]; exact (show ∀ k, k < 16 → nI 1 <<< (nI k &&& 31) = nI (if true = true then 2 ^ k else 0) by decide +kernel) k hk
  | false => rw [hasb_zero x hv h]; exact (show ∀ k, k < 16 → nI 0 <<< (nI k &&& 31) = nI (if false = true then 2 ^ k else 0) by decide +kernel) k hk
theorem nI_or {a b : Nat} (ha : a < 2 ^ 32) (hb : b < 2 ^ 32) : nI a ||| nI b = nI (a ||| b) := by
  apply Int32.toBitVec_inj.mp
  apply BitVec.eq_of_toNat_eq
  rw [Int32.toBitVec_or, BitVec.toNat_or]
  have h1 : (nI a).toBitVec.toNat = a := pk_tn ha
  have h2 : (nI b).toBitVec.toNat = b := pk_tn hb
  have h3 : (nI (a ||| b)).toBitVec.toNat = a ||| b := pk_tn (Nat.or_lt_two_pow ha hb)
  rw [h1, h2, h3]
theorem nI_and {a b : Nat} (ha : a < 2 ^ 32) (hb : b < 2 ^ 32) : nI a &&& nI b = nI (a &&& b) := by
  apply Int32.toBitVec_inj.mp
  apply BitVec.eq_of_toNat_eq
  rw [Int32.toBitVec_and, BitVec.toNat_and]
  have h1 : (nI a).toBitVec.toNat = a := pk_tn ha
  have h2 : (nI b).toBitVec.toNat = b := pk_tn hb
  have h3 : (nI (a &&& b)).toBitVec.toNat = a &&& b := pk_tn (Nat.lt_of_le_of_lt Nat.and_le_left ha)
  rw [h1, h2, h3]
theorem or_pow {a k : Nat} (h : a < 2 ^ k) : a ||| 2 ^ k = a + 2 ^ k := by
  have := Nat.two_pow_add_eq_or_of_lt h 1
  rw [Nat.mul_one] at this
  rw [Nat.or_comm, ← this, Nat.add_comm]
theorem or_lo {lo hi i : Nat} (h : lo < 2 ^ i) (hi8 : i < 8) : (lo + 256 * hi) ||| 2 ^ i = lo + 2 ^ i + 256 * hi := by
  have hp : 2 ^ i < 256 := (show ∀ i, i < 8 → 2 ^ i < 256 by decide) i hi8
  have hd : 2 ^ i ∣ 256 := Nat.pow_dvd_pow 2 (show i ≤ 8 by omega)
  have e1 : lo + 256 * hi = 2 ^ 8 * hi ||| lo := by
    rw [← Nat.two_pow_add_eq_or_of_lt (show lo < 2 ^ 8 by omega) hi]; omega
  have h2 : lo + 2 ^ i < 256 := by
    have : 2 ^ i + 2 ^ i ≤ 256 := (show ∀ i, i < 8 → 2 ^ i + 2 ^ i ≤ 256 by decide) i hi8
    omega
  rw [e1, Nat.or_assoc, or_pow h, ← Nat.two_pow_add_eq_or_of_lt (show lo + 2 ^ i < 2 ^ 8 from h2) hi]
  omega
theorem or_hi {lo hi i : Nat} (h : hi < 2 ^ i) (hl : lo < 256) : (lo + 256 * hi) ||| 2 ^ (i + 8) = lo + 256 * (hi + 2 ^ i) := by
  have e : 2 ^ (i + 8) = 256 * 2 ^ i := by rw [Nat.pow_add]; omega
  rw [or_pow (by rw [e]; omega), e]
  omega
/-- the marks of a value: b for now, t for then -/
def mkB (b t : Nat → Bool) (n : Nat) : Nat := ifN b n + 256 * ifN t n
theorem mkB_lt (b t : Nat → Bool) {n : Nat} (h : n ≤ 8) : mkB b t n < 65536 := by
  have h1 := ifN_256 b h
  have h2 := ifN_256 t h
  unfold mkB; omega
theorem mkB_mod (b t : Nat → Bool) {n : Nat} (h : n ≤ 8) : mkB b t n % 256 = ifN b n := by
  have h1 := ifN_256 b h
  unfold mkB; omega
theorem mkB_div (b t : Nat → Bool) {n : Nat} (h : n ≤ 8) : mkB b t n / 256 = ifN t n := by
  have h1 := ifN_256 b h
  unfold mkB; omega
theorem mkB_step (b t : Nat → Bool) {n : Nat} (h : n < 8) : (nI (mkB b t n) ||| nI (if b n = true then 2 ^ n else 0)) ||| nI (if t n = true then 2 ^ (n + 8) else 0) = nI (mkB b t (n + 1)) := by
  have h1 := ifN_lt b n
  have h2 := ifN_lt t n
  have h3 : 2 ^ n < 256 := (show ∀ i, i < 8 → 2 ^ i < 256 by decide) n h
  have h4 : 2 ^ (n + 8) < 65536 := by rw [Nat.pow_add]; omega
  have h5 := ifN_256 b (show n + 1 ≤ 8 by omega)
  have h6 := ifN_256 t (show n ≤ 8 by omega)
  have z0 : ∀ x : Nat, x ||| 0 = x := fun x => Nat.or_zero x
  have e1 : nI (mkB b t n) ||| nI (if b n = true then 2 ^ n else 0) = nI (ifN b (n + 1) + 256 * ifN t n) := by
    unfold mkB
    rw [nI_or (by omega) (by split <;> omega), ifN]
    split
    · rw [or_lo h1 h]
    · rw [z0]
  rw [e1, nI_or (by omega) (by split <;> omega)]
  show _ = nI (ifN b (n + 1) + 256 * ifN t (n + 1))
  rw [show ifN t (n + 1) = if t n = true then ifN t n + 2 ^ n else ifN t n from rfl]
  split
  · rw [or_hi h2 h5]
  · rw [z0]
theorem ndF_congr {M M' : pmM} (h : ∀ o, o < 8 → M'.1 (15 + 2 * o) 2 = M.1 (15 + 2 * o) 2) : ∀ (f o x : Nat), o < 8 → ndF M' f o x = ndF M f o x
  | 0, _, _, _ => rfl
  | f + 1, o, x, ho => by
    have h2 : ∀ n, n ≤ 8 → anyB (fun i => hasb (M'.1 (15 + 2 * o) 2) i && ndF M' f i x) n = anyB (fun i => hasb (M.1 (15 + 2 * o) 2) i && ndF M f i x) n := by
      intro n
      induction n with
      | zero => intro _; rfl
      | succ n ih =>
        intro hn
        rw [anyB, anyB, ih (by omega), h o ho, ndF_congr h f n x (by omega)]
    rw [ndF, ndF, h2 8 (Nat.le_refl 8), h o ho]
theorem ionF_congr {M M' : pmM} (h : ∀ o, o < 8 → M'.1 (15 + 2 * o) 2 = M.1 (15 + 2 * o) 2) {x : Int32} (hx : fOk x) (k : Nat) : ionF M' x k = ionF M x k := by
  unfold ionF
  rcases hx with rfl | ⟨o, ho, rfl⟩
  · rfl
  · rw [ixN_nI ho, ndF_congr h 8 o k ho]
theorem SX.nd {M M' : pmM} (h : SX M M') : ∀ o, o < 8 → M'.1 (15 + 2 * o) 2 = M.1 (15 + 2 * o) 2 := fun o ho => h.2 _ _ (by unfold scr; omega)
def bnF (M : pmM) (od : Nat → Nat) (fld v i : Nat) : Bool := inF M od i && hasb (M.1 (33 + 3 * od i) fld) v
def btF (M : pmM) (od : Nat → Nat) (fld : Nat) (ob fv : Int32) (v i : Nat) : Bool := inF M od i && hasb (thF M od fld ob fv i) v
def mkN (M : pmM) (od : Nat → Nat) (rc fld : Nat) (ob fv : Int32) (v : Nat) : Nat := mkB (bnF M od fld v) (btF M od fld ob fv v) rc
theorem ifN_congr {b b' : Nat → Bool} : ∀ n, (∀ i, i < n → b i = b' i) → ifN b n = ifN b' n
  | 0, _ => rfl
  | n + 1, h => by rw [ifN, ifN, ifN_congr n (fun i hi => h i (by omega)), h n (by omega)]
theorem thF_congr {M M' : pmM} {od : Nat → Nat} {rc fld i : Nat} {ob fv : Int32} (h : SX M M') (hi : i < rc) (ho : od i < 8) (hfo : ∀ p f, p < rc → f < 3 → fOk (M.1 (32 + 3 * od p) f)) (hfl : fld < 3) : thF M' od fld ob fv i = thF M od fld ob fv i := by
  unfold thF
  rw [h.2 (33 + 3 * od i) _ (by unfold scr; omega), h.2 (32 + 3 * od i) _ (by unfold scr; omega), ionF_congr h.nd (hfo i fld hi hfl)]
theorem mkN_congr {M M' : pmM} {od : Nat → Nat} {rc fld : Nat} {ob fv : Int32} (h : SX M M') (hod : ∀ p, p < 8 → od p < 8) (h8 : rc ≤ 8) (hfo : ∀ p f, p < rc → f < 3 → fOk (M.1 (32 + 3 * od p) f)) (hfl : fld < 3) (v : Nat) : mkN M' od rc fld ob fv v = mkN M od rc fld ob fv v := by
  unfold mkN mkB
  rw [ifN_congr (b := bnF M' od fld v) (b' := bnF M od fld v) rc (fun i hi => ?_), ifN_congr (b := btF M' od fld ob fv v) (b' := btF M od fld ob fv v) rc (fun i hi => ?_)]
  · have ho := hod i (by omega)
    show (inF M' od i && hasb (thF M' od fld ob fv i) v) = (inF M od i && hasb (thF M od fld ob fv i) v)
    rw [h.inF ho, thF_congr h hi ho hfo hfl]
  · have ho := hod i (by omega)
    show (inF M' od i && hasb (M'.1 (33 + 3 * od i) fld) v) = (inF M od i && hasb (M.1 (33 + 3 * od i) fld) v)
    rw [h.inF ho, h.2 (33 + 3 * od i) _ (by unfold scr; omega)]
theorem mvV_at (now thn : Int32) (i m v : Nat) (hm : m ≤ 32) (M : pmM) (hi : i < 8) (hv : v < 32) : (itM (mvV now thn i) m M).1 4 v = if v < m then (M.1 4 v ||| nI (if hasb now v = true then 2 ^ i else 0)) ||| nI (if hasb thn v = true then 2 ^ (i + 8) else 0) else M.1 4 v := by
  induction m with
  | zero => rfl
  | succ m ih =>
    have ih := ih (by omega)
    rw [itM]
    generalize itM (mvV now thn i) m M = Q at ih ⊢
    unfold mvV
    rw [bit_shl now (show m < 32 by omega) (show i < 16 by omega), bit_shl thn (show m < 32 by omega) (show i + 8 < 16 by omega)]
    show pm2 (pm2 Q.1 4 m _) 4 m _ 4 v = _
    rw [pm2_at]
    by_cases h : v = m
    · subst h
      rw [if_pos ⟨rfl, rfl⟩, if_pos (show v < v + 1 by omega)]
      rw [if_neg (Nat.lt_irrefl v)] at ih
      rw [ih]
    · rw [if_neg (fun q => h q.2), pm2_at, if_neg (fun q => h q.2), ih]
      by_cases h2 : v < m
      · rw [if_pos h2, if_pos (show v < m + 1 by omega)]
      · rw [if_neg h2, if_neg (show ¬ v < m + 1 by omega)]
theorem mv_val {M : pmM} {od : Nat → Nat} {rc fld : Nat} {ob fv : Int32} (hod : ∀ p, p < 8 → od p < 8) (h8 : rc ≤ 8) (hfo : ∀ p f, p < rc → f < 3 → fOk (M.1 (32 + 3 * od p) f)) (hfl : fld < 3) {v : Nat} (hv : v < 32) : ∀ n, n ≤ rc → (itM (mvR od fld ob fv) n (fillM M 4 32 (nI 0))).1 4 v = nI (mkB (bnF M od fld v) (btF M od fld ob fv v) n)
  | 0, _ => if_pos ⟨rfl, hv⟩
  | n + 1, hn => by
    have ih := mv_val (fv := fv) (ob := ob) hod h8 hfo hfl hv n (by omega)
    have hT := (mv_MX od fld ob fv M n).SX
    have ho := hod n (by omega)
    rw [itM]
    generalize itM (mvR od fld ob fv) n (fillM M 4 32 (nI 0)) = Q at ih hT ⊢
    unfold mvR
    rw [hT.inF ho, thF_congr hT (by omega) ho hfo hfl, hT.2 (33 + 3 * od n) _ (by unfold scr; omega), ← mkB_step _ _ (show n < 8 by omega)]
    by_cases h : inF M od n = true
    · rw [if_pos h, mvV_at _ _ _ _ _ (by omega) _ (by omega) hv, if_pos hv, ih]
      simp only [bnF, btF, h, Bool.true_and]
    · rw [if_neg h, ih]
      have h0 : inF M od n = false := Bool.not_eq_true _ |>.mp h
      simp only [bnF, btF, h0, Bool.false_and]
      rw [if_neg (by decide), nI_or (by have := mkB_lt (bnF M od fld v) (btF M od fld ob fv v) (show n ≤ 8 by omega); omega) (by decide), Nat.or_zero]
      rw [if_neg (by decide), nI_or (by have := mkB_lt (bnF M od fld v) (btF M od fld ob fv v) (show n ≤ 8 by omega); omega) (by decide), Nat.or_zero]
theorem mvM_val {M : pmM} {od : Nat → Nat} {rc fld : Nat} {ob fv : Int32} (hod : ∀ p, p < 8 → od p < 8) (h8 : rc ≤ 8) (hfo : ∀ p f, p < rc → f < 3 → fOk (M.1 (32 + 3 * od p) f)) (hfl : fld < 3) {v : Nat} (hv : v < 32) : (mvM od rc fld ob fv M).1 4 v = nI (mkN M od rc fld ob fv v) := mv_val hod h8 hfo hfl hv rc (Nat.le_refl rc)
/-! sums -/
def sumN : Nat → (Nat → Nat) → Nat
  | 0, _ => 0
  | n + 1, g => sumN n g + g n
theorem sumN_congr {g h : Nat → Nat} : ∀ n, (∀ i, i < n → g i = h i) → sumN n g = sumN n h
  | 0, _ => rfl
  | n + 1, q => by rw [sumN, sumN, sumN_congr n (fun i hi => q i (by omega)), q n (by omega)]
theorem sumN_up {g h : Nat → Nat} {k d : Nat} (hk : h k = g k + d) (ho : ∀ i, i ≠ k → h i = g i) : ∀ n, sumN n h = if k < n then sumN n g + d else sumN n g
  | 0 => rfl
  | n + 1 => by
    rw [sumN, sumN, sumN_up hk ho n]
    by_cases h1 : n = k
    · subst h1
      rw [if_neg (Nat.lt_irrefl _), if_pos (Nat.lt_succ_self _), hk]; omega
    · rw [ho n h1]
      by_cases h2 : k < n
      · rw [if_pos h2, if_pos (by omega)]; omega
      · rw [if_neg h2, if_neg (by omega)]
/-- the groups of a field stand for the first n values -/
def GI (f : Nat) (mk : Nat → Nat) (n : Nat) (M : pmM) (c : Nat) (gm gs : Nat → Nat) : Prop :=
  c ≤ n ∧ M.1 (55 + 3 * f) 2 = nI c ∧ (∀ i, i < c → M.1 (56 + 3 * f) i = nI (gm i) ∧ gm i < 65536 ∧ M.1 (57 + 3 * f) i = nI (gs i)) ∧ ∀ g : Nat → Nat, sumN c (fun i => gs i * g (gm i)) = sumN n (fun v => g (mk v))
theorem GI_step {f : Nat} {mk : Nat → Nat} {n c : Nat} {M : pmM} {gm gs : Nat → Nat} (hn : n < 32) (hmk : mk n < 65536) (h : GI f mk n M c gm gs) : ∃ c' gm' gs', GI f mk (n + 1) (puM f (nI (mk n)) M) c' gm' gs' := by
  obtain ⟨h1, h2, h3, h4⟩ := h
  by_cases hlt : puI M f c (nI (mk n)) < c
  · rw [puM_hit h2 (by omega) rfl hlt]
    have hy : M.1 (56 + 3 * f) (puI M f c (nI (mk n))) = nI (mk n) := of_decide_eq_true (fi_yes (fun q => decide (M.1 (56 + 3 * f) q = nI (mk n))) c hlt)
    generalize hi : puI M f c (nI (mk n)) = i at hlt hy
    have he : gm i = mk n := by
      have := (h3 i hlt).1.symm.trans hy
      exact (nI_eq (by have := (h3 i hlt).2.1; omega) (by omega)).mp this
    refine ⟨c, gm, fun j => if j = i then gs i + 1 else gs j, by omega, ?_, fun j hj => ⟨?_, (h3 j hj).2.1, ?_⟩, fun g => ?_⟩
    · show pm2 _ _ _ _ _ _ = _
      rw [pm2_at, if_neg (by omega)]; exact h2
    · show pm2 _ _ _ _ _ _ = _
      rw [pm2_at, if_neg (by omega)]; exact (h3 j hj).1
    · show (if 57 + 3 * f = 57 + 3 * f ∧ j = i then M.1 (57 + 3 * f) i + nI 1 else M.1 (57 + 3 * f) j) = nI (if j = i then gs i + 1 else gs j)
      by_cases q : j = i
      · subst q
        rw [if_pos ⟨rfl, rfl⟩, if_pos rfl, (h3 j hj).2.2]; exact nI_add _ 1
      · rw [if_neg (fun z => q z.2), if_neg q]; exact (h3 j hj).2.2
    · rw [sumN_up (g := fun i => gs i * g (gm i)) (k := i) (d := g (mk n)) (by show (if i = i then _ else _) * _ = _; rw [if_pos rfl, he, Nat.add_mul, Nat.one_mul]) (fun j hj => by show (if j = i then _ else _) * _ = _; rw [if_neg hj]) c, if_pos hlt, h4 g, sumN]
  · rw [puM_new h2 (by omega) hlt]
    refine ⟨c + 1, fun j => if j = c then mk n else gm j, fun j => if j = c then 1 else gs j, by omega, ?_, fun j hj => ⟨?_, ?_, ?_⟩, fun g => ?_⟩
    · show pm2 _ _ _ _ _ _ = _
      rw [pm2_at, if_pos ⟨rfl, rfl⟩]
    · show pm2 _ _ _ _ _ _ = nI (if j = c then mk n else gm j)
      rw [pm2_at, if_neg (by omega), pm2_at, if_neg (by omega), pm2_at]
      by_cases q : j = c
      · rw [if_pos ⟨rfl, q⟩, if_pos q]
      · rw [if_neg (fun z => q z.2), if_neg q]; exact (h3 j (by omega)).1
    · show (if j = c then mk n else gm j) < 65536
      by_cases q : j = c
      · rw [if_pos q]; exact hmk
      · rw [if_neg q]; exact (h3 j (by omega)).2.1
    · show pm2 _ _ _ _ _ _ = nI (if j = c then 1 else gs j)
      rw [pm2_at, if_neg (by omega), pm2_at]
      by_cases q : j = c
      · rw [if_pos ⟨rfl, q⟩, if_pos q]
      · rw [if_neg (fun z => q z.2), if_neg q, pm2_at, if_neg (by omega)]; exact (h3 j (by omega)).2.2
    · have e : sumN c (fun i => (if i = c then 1 else gs i) * g (if i = c then mk n else gm i)) = sumN c (fun i => gs i * g (gm i)) := sumN_congr c (fun j hj => by rw [if_neg (show ¬ j = c by omega), if_neg (show ¬ j = c by omega)])
      show sumN c (fun i => (if i = c then 1 else gs i) * g (if i = c then mk n else gm i)) + (if c = c then 1 else gs c) * g (if c = c then mk n else gm c) = sumN n (fun v => g (mk v)) + g (mk n)
      rw [e, if_pos rfl, if_pos rfl, Nat.one_mul, h4 g]
theorem gv_4 {f : Nat} {M : pmM} (hf : f < 3) (n v : Nat) : (itM (gvS f) n (gv0 f M)).1 4 v = M.1 4 v := by
  induction n with
  | zero =>
    show pm2 _ _ _ _ _ _ = _
    rw [pm2_at, if_neg (by omega)]
  | succ n ih =>
    rw [itM]
    generalize itM (gvS f) n (gv0 f M) = Q at ih ⊢
    unfold gvS puM
    split
    · show pm2 _ _ _ _ _ _ = _
      rw [pm2_at, if_neg (by omega)]; exact ih
    · show pm2 _ _ _ _ _ _ = _
      rw [pm2_at, if_neg (by omega), pm2_at, if_neg (by omega), pm2_at, if_neg (by omega)]; exact ih
theorem gv_GI {f : Nat} (hf : f < 3) {M : pmM} {mk : Nat → Nat} (hm : ∀ v, v < 32 → M.1 4 v = nI (mk v) ∧ mk v < 65536) : ∀ n, n ≤ 32 → ∃ c gm gs, GI f mk n (itM (gvS f) n (gv0 f M)) c gm gs
  | 0, _ => ⟨0, fun _ => 0, fun _ => 0, Nat.le_refl 0, by show pm2 _ _ _ _ _ _ = _; rw [pm2_at, if_pos ⟨rfl, rfl⟩], fun i hi => absurd hi (Nat.not_lt_zero i), fun g => rfl⟩
  | n + 1, hn => by
    obtain ⟨c, gm, gs, h⟩ := gv_GI hf hm n (by omega)
    have := GI_step (show n < 32 by omega) (hm n (by omega)).2 h
    rw [itM]
    show ∃ c gm gs, GI f mk (n + 1) (puM f ((itM (gvS f) n (gv0 f M)).1 4 n) (itM (gvS f) n (gv0 f M))) c gm gs
    rw [gv_4 hf, (hm n (by omega)).1]
    exact this
/-- nothing but the marks and the groups of one field has changed -/
def GX (f : Nat) (M M' : pmM) : Prop := M'.2 = M.2 ∧ ∀ a k, a ≠ 4 → ¬ (55 + 3 * f ≤ a ∧ a < 58 + 3 * f) → M'.1 a k = M.1 a k
theorem GX.tr {f : Nat} {M M' M'' : pmM} (h : GX f M M') (h' : GX f M' M'') : GX f M M'' := ⟨h'.1.trans h.1, fun a k q r => (h'.2 a k q r).trans (h.2 a k q r)⟩
theorem MX.GX {f : Nat} {M M' : pmM} (h : MX M M') : GX f M M' := ⟨h.1, fun a k q _ => h.2 a k q⟩
theorem GX.put {f : Nat} {M : pmM} {F : Nat → Nat → Int32} {a k : Nat} {v : Int32} (ha : 55 + 3 * f ≤ a ∧ a < 58 + 3 * f) (h : GX f M (F, M.2)) : GX f M (pm2 F a k v, M.2) := ⟨rfl, fun b j q r => by
  show (if b = a ∧ j = k then v else F b j) = _
  rw [if_neg (fun e => r (by rw [e.1]; exact ha))]
  exact h.2 b j q r⟩
theorem GX.rf (f : Nat) (M : pmM) : GX f M M := ⟨rfl, fun _ _ _ _ => rfl⟩
theorem puM_GX (f : Nat) (v : Int32) (M : pmM) : GX f M (puM f v M) := by
  unfold puM
  split
  · exact GX.put (by omega) (GX.rf f M)
  · exact GX.put (by omega) (GX.put (by omega) (GX.put (by omega) (GX.rf f M)))
theorem gv_GX (f : Nat) (M : pmM) : ∀ n, GX f M (itM (gvS f) n (gv0 f M))
  | 0 => GX.put (by omega) (GX.rf f M)
  | n + 1 => (gv_GX f M n).tr (puM_GX f _ _)
theorem GI_keep {f f' n c : Nat} {mk gm gs : Nat → Nat} {M M' : pmM} (hne : f ≠ f') (h : GX f M M') (g : GI f' mk n M c gm gs) : GI f' mk n M' c gm gs := by
  obtain ⟨h1, h2, h3, h4⟩ := g
  refine ⟨h1, (h.2 _ _ (by omega) (by omega)).trans h2, fun i hi => ⟨(h.2 _ _ (by omega) (by omega)).trans (h3 i hi).1, (h3 i hi).2.1, (h.2 _ _ (by omega) (by omega)).trans (h3 i hi).2.2⟩, h4⟩
theorem TX.GI {f n c : Nat} {mk gm gs : Nat → Nat} {M M' : pmM} (h : TX M M') (g : GI f mk n M c gm gs) : GI f mk n M' c gm gs := by
  obtain ⟨h1, h2, h3, h4⟩ := g
  refine ⟨h1, (h.2 _ _ (by omega)).trans h2, fun i hi => ⟨(h.2 _ _ (by omega)).trans (h3 i hi).1, (h3 i hi).2.1, (h.2 _ _ (by omega)).trans (h3 i hi).2.2⟩, h4⟩

