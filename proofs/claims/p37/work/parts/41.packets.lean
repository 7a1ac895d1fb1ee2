/-! ===== counting: packets ===== -/
theorem cntN_sum (b : Nat → Bool) : ∀ n, cntN b n = sumN n (fun i => (b i).toNat)
  | 0 => rfl
  | n + 1 => by
    rw [cntN, sumN, cntN_sum b n]
    cases b n <;> rfl
theorem sumN_add (f g : Nat → Nat) : ∀ n, sumN n (fun i => f i + g i) = sumN n f + sumN n g
  | 0 => rfl
  | n + 1 => by rw [sumN, sumN, sumN, sumN_add f g n]; omega
theorem sumN_comm (f : Nat → Nat → Nat) (m : Nat) : ∀ n, sumN n (fun i => sumN m (fun j => f i j)) = sumN m (fun j => sumN n (fun i => f i j))
  | 0 => (sumN_zero m).symm
  | n + 1 => by
    rw [sumN, sumN_comm f m n, ← sumN_add]
    rfl
theorem sumN_app (f : Nat → Nat) (m : Nat) : ∀ n, sumN (m + n) f = sumN m f + sumN n (fun i => f (m + i))
  | 0 => rfl
  | n + 1 => by rw [← Nat.add_assoc, sumN, sumN, sumN_app f m n]; omega
theorem sumN_prod (f : Nat → Nat → Nat) {n : Nat} (hn : 0 < n) : ∀ m, sumN (m * n) (fun x => f (x / n) (x % n)) = sumN m (fun i => sumN n (fun j => f i j))
  | 0 => by rw [Nat.zero_mul]; rfl
  | m + 1 => by
    rw [Nat.succ_mul, sumN_app, sumN_prod f hn m, sumN]
    congr 1
    exact sumN_congr n (fun j hj => by
      rw [show (m * n + j) / n = m by rw [Nat.mul_comm, Nat.mul_add_div hn, Nat.div_eq_of_lt hj, Nat.add_zero], show (m * n + j) % n = j by rw [Nat.mul_comm, Nat.mul_add_mod, Nat.mod_eq_of_lt hj]])
def sm3 (F : Nat → Nat → Nat → Nat) : Nat := sumN 32 (fun a => sumN 32 (fun b => sumN 32 (fun c => F a b c)))
theorem sm3_congr {F G : Nat → Nat → Nat → Nat} (h : ∀ a b c, a < 32 → b < 32 → c < 32 → F a b c = G a b c) : sm3 F = sm3 G := sumN_congr 32 (fun a ha => sumN_congr 32 (fun b hb => sumN_congr 32 (fun c hc => h a b c ha hb hc)))
theorem sm3_add (F G : Nat → Nat → Nat → Nat) : sm3 (fun a b c => F a b c + G a b c) = sm3 F + sm3 G := by
  unfold sm3
  rw [← sumN_add]
  refine sumN_congr 32 (fun a _ => ?_)
  rw [← sumN_add]
  exact sumN_congr 32 (fun b _ => sumN_add _ _ 32)
theorem sm3_zero : sm3 (fun _ _ _ => 0) = 0 := by
  unfold sm3
  rw [sumN_congr (h := fun _ => 0) 32 (fun a _ => by rw [sumN_congr (h := fun _ => 0) 32 (fun b _ => sumN_zero 32), sumN_zero]), sumN_zero]
theorem sm3_sum (F : Nat → Nat → Nat → Nat → Nat) : ∀ n, sm3 (fun a b c => sumN n (fun i => F i a b c)) = sumN n (fun i => sm3 (F i))
  | 0 => sm3_zero
  | n + 1 => by
    show sm3 (fun a b c => sumN n (fun i => F i a b c) + F n a b c) = sumN n (fun i => sm3 (F i)) + sm3 (F n)
    rw [sm3_add, sm3_sum F n]
/-- how many packets -/
def cn3 (P : Nat → Nat → Nat → Bool) : Nat := sm3 (fun a b c => (P a b c).toNat)
theorem cn3_congr {P Q : Nat → Nat → Nat → Bool} (h : ∀ a b c, a < 32 → b < 32 → c < 32 → P a b c = Q a b c) : cn3 P = cn3 Q := sm3_congr (fun a b c h1 h2 h3 => by rw [h a b c h1 h2 h3])
theorem cn3_3 {P P1 P2 P3 : Nat → Nat → Nat → Bool} (h : ∀ a b c, a < 32 → b < 32 → c < 32 → (P a b c).toNat = (P1 a b c).toNat + (P2 a b c).toNat + (P3 a b c).toNat) : cn3 P = cn3 P1 + cn3 P2 + cn3 P3 := by
  unfold cn3
  rw [sm3_congr h, sm3_add (fun a b c => (P1 a b c).toNat + (P2 a b c).toNat), sm3_add]
theorem cn3_zero {P : Nat → Nat → Nat → Bool} (h : ∀ a b c, a < 32 → b < 32 → c < 32 → P a b c = false) : cn3 P = 0 := by
  unfold cn3
  rw [sm3_congr (G := fun _ _ _ => 0) (fun a b c h1 h2 h3 => by rw [h a b c h1 h2 h3]; rfl)]
  unfold sm3
  rw [sumN_congr (h := fun _ => 0) 32 (fun a _ => by rw [sumN_congr (h := fun _ => 0) 32 (fun b _ => sumN_zero 32), sumN_zero]), sumN_zero]
theorem cn3_flat (P : Nat → Nat → Nat → Bool) : cntN (fun x => P (x / 1024) (x / 32 % 32) (x % 32)) 32768 = cn3 P := by
  rw [cntN_sum]
  have e1 := sumN_prod (fun i j => (P i (j / 32) (j % 32)).toNat) (n := 1024) (by decide) 32
  have e2 : ∀ a, sumN 1024 (fun j => (P a (j / 32) (j % 32)).toNat) = sumN 32 (fun b => sumN 32 (fun c => (P a b c).toNat)) := fun a => sumN_prod (fun b c => (P a b c).toNat) (n := 32) (by decide) 32
  rw [show (32 * 1024 : Nat) = 32768 from rfl] at e1
  unfold cn3 sm3
  rw [← sumN_congr 32 (fun a _ => e2 a), ← e1]
  exact sumN_congr 32768 (fun x _ => by rw [show x % 1024 / 32 = x / 32 % 32 by omega, show x % 1024 % 32 = x % 32 by omega])
theorem toNat_and (a b : Bool) : (a && b).toNat = a.toNat * b.toNat := by cases a <;> cases b <;> rfl
theorem cn3_prod (s t v : Nat → Bool) : cn3 (fun a b c => s a && (t b && v c)) = cntN s 32 * cntN t 32 * cntN v 32 := by
  unfold cn3 sm3
  rw [cntN_sum s, cntN_sum t, cntN_sum v]
  rw [sumN_congr (h := fun a => (sumN 32 (fun b => (t b).toNat) * sumN 32 (fun c => (v c).toNat)) * (s a).toNat) 32 (fun a _ => ?_), sumN_mul, Nat.mul_comm (sumN 32 fun b => (t b).toNat), Nat.mul_comm, ← Nat.mul_assoc, Nat.mul_right_comm]
  rw [sumN_congr (h := fun b => ((s a).toNat * sumN 32 (fun c => (v c).toNat)) * (t b).toNat) 32 (fun b _ => ?_), sumN_mul]
  · rw [Nat.mul_comm (s a).toNat, Nat.mul_right_comm, Nat.mul_comm (sumN 32 fun c => (v c).toNat)]
  · rw [sumN_congr (h := fun c => ((s a).toNat * (t b).toNat) * (v c).toNat) 32 (fun c _ => by show (s a && (t b && v c)).toNat = _; rw [toNat_and, toNat_and, Nat.mul_assoc]), sumN_mul, Nat.mul_right_comm]
theorem pkE_cnt (s t v : Int32) : pkE s t v = nI (cn3 (fun a b c => hasb s a && (hasb t b && hasb v c))) := by
  unfold pkE
  rw [bcE_cnt, bcE_cnt, bcE_cnt, pk_mul, pk_mul, cn3_prod]
theorem hasb_and (x y : Int32) (k : Nat) : hasb (x &&& y) k = (hasb x k && hasb y k) := by unfold hasb; rw [Int32.toBitVec_and, BitVec.getLsbD_and]
theorem hasb_or (x y : Int32) (k : Nat) : hasb (x ||| y) k = (hasb x k || hasb y k) := by unfold hasb; rw [Int32.toBitVec_or, BitVec.getLsbD_or]
theorem hasb_m1 {k : Nat} (hk : k < 32) : hasb (-1) k = true := (show ∀ k, k < 32 → hasb (-1) k = true by decide +kernel) k hk
theorem hasb_not (x : Int32) {k : Nat} (hk : k < 32) : hasb (x ^^^ (-1)) k = !hasb x k := by
  have h1 := hasb_m1 hk
  unfold hasb at h1 ⊢
  rw [Int32.toBitVec_xor, BitVec.getLsbD_xor, h1]
  cases x.toBitVec.getLsbD k <;> rfl
theorem hasb_0 (k : Nat) : hasb 0 k = false := by unfold hasb; show (0#32).getLsbD k = false; simp
/-- none of the rules at the positions m matches -/
def noM (M : pmM) (od : Nat → Nat) (m a b c : Nat) : Bool := !anyB (fun p => m.testBit p && maF M (od p) a b c) 8
theorem anyB_or (f g : Nat → Bool) : ∀ n, anyB (fun i => f i || g i) n = (anyB f n || anyB g n)
  | 0 => rfl
  | n + 1 => by
    rw [anyB, anyB, anyB, anyB_or f g n]
    cases anyB f n <;> cases anyB g n <;> cases f n <;> cases g n <;> rfl
theorem anyB_at (q : Nat → Bool) (f : Nat) : ∀ n, f < n → anyB (fun p => decide (p = f) && q p) n = q f
  | 0, h => absurd h (Nat.not_lt_zero f)
  | n + 1, h => by
    rw [anyB]
    by_cases e : n = f
    · subst e
      have : anyB (fun p => decide (p = n) && q p) n = false := by
        cases hb : anyB (fun p => decide (p = n) && q p) n with
        | false => rfl
        | true =>
          obtain ⟨i, h1, h2⟩ := (anyB_iff _ _).mp hb
          simp [show ¬ i = n by omega] at h2
      rw [this, decide_eq_true rfl]; rfl
    · rw [anyB_at q f n (by omega), decide_eq_false e, Bool.false_and, Bool.or_false]
theorem anyB_congr {f g : Nat → Bool} : ∀ n, (∀ i, i < n → f i = g i) → anyB f n = anyB g n
  | 0, _ => rfl
  | n + 1, h => by rw [anyB, anyB, anyB_congr n (fun i hi => h i (by omega)), h n (by omega)]
theorem tb_clr {m p : Nat} (hm : m < 256) (hf : fo m < 8) (hp : p < 8) : m.testBit p = (decide (p = fo m) || (clr m (fo m)).testBit p) := (show ∀ m, m < 256 → fo m < 8 → ∀ p, p < 8 → m.testBit p = (decide (p = fo m) || (clr m (fo m)).testBit p) by decide +kernel) m hm hf p hp
theorem tb_none {m p : Nat} (hm : m < 256) (hf : 8 ≤ fo m) (hp : p < 8) : m.testBit p = false := (show ∀ m, m < 256 → 8 ≤ fo m → ∀ p, p < 8 → m.testBit p = false by decide +kernel) m hm hf p hp
theorem noM_clr (M : pmM) (od : Nat → Nat) {m : Nat} (hm : m < 256) (hf : fo m < 8) (a b c : Nat) : noM M od m a b c = (!maF M (od (fo m)) a b c && noM M od (clr m (fo m)) a b c) := by
  unfold noM
  rw [anyB_congr (g := fun p => (decide (p = fo m) && maF M (od p) a b c) || ((clr m (fo m)).testBit p && maF M (od p) a b c)) 8 (fun p hp => by rw [tb_clr hm hf hp, Bool.and_or_distrib_right]), anyB_or, anyB_at (fun p => maF M (od p) a b c) (fo m) 8 hf, Bool.not_or]
theorem noM_none (M : pmM) (od : Nat → Nat) {m : Nat} (hm : m < 256) (hf : 8 ≤ fo m) (a b c : Nat) : noM M od m a b c = true := by
  unfold noM
  rw [anyB_congr (g := fun _ => false) 8 (fun p hp => by rw [tb_none hm hf hp, Bool.false_and])]
  rfl
theorem lo_cnt (M : pmM) (od : Nat → Nat) : ∀ (f m : Nat) (s t v : Int32), m < 256 → pcn m < f → loE M od f m s t v = nI (cn3 (fun a b c => hasb s a && (hasb t b && (hasb v c && noM M od m a b c))))
  | 0, _, _, _, _, _, h => absurd h (Nat.not_lt_zero _)
  | f + 1, m, s, t, v, hm, hp => by
    rw [loE]
    by_cases h0 : s = 0 ∨ t = 0 ∨ v = 0
    · rw [if_pos h0, cn3_zero]
      intro a b c _ _ _
      rcases h0 with rfl | rfl | rfl
      · rw [hasb_0, Bool.false_and]
      · rw [hasb_0, Bool.false_and, Bool.and_false]
      · rw [hasb_0, Bool.false_and, Bool.and_false, Bool.and_false]
    · rw [if_neg h0]
      by_cases h8 : 8 ≤ fo m
      · rw [if_pos h8, pkE_cnt]
        exact congrArg nI (cn3_congr (fun a b c _ _ _ => by rw [noM_none M od hm h8, Bool.and_true]))
      · have h8 : fo m < 8 := by omega
        have hpc := clr_pc hm h8
        rw [if_neg (by omega), lo_cnt M od f _ _ _ _ (clr_lt hm) (by omega), lo_cnt M od f _ _ _ _ (clr_lt hm) (by omega), lo_cnt M od f _ _ _ _ (clr_lt hm) (by omega), nI_add, nI_add]
        refine congrArg nI (cn3_3 (fun a b c ha hb hc => ?_)).symm
        rw [noM_clr M od hm h8, hasb_and, hasb_and, hasb_and, hasb_and, hasb_and, hasb_not _ ha, hasb_not _ hb, hasb_not _ hc]
        unfold maF
        cases hasb s a <;> cases hasb t b <;> cases hasb v c <;> cases hasb (M.1 (33 + 3 * od (fo m)) 0) a <;> cases hasb (M.1 (33 + 3 * od (fo m)) 1) b <;> cases hasb (M.1 (33 + 3 * od (fo m)) 2) c <;> cases noM M od (clr m (fo m)) a b c <;> rfl
theorem lb_cnt (M : pmM) (od : Nat → Nat) (j k : Nat) {m : Nat} (hm : m < 256) : lbE M od j k m = nI (cn3 (fun a b c => maF M j a b c && (maF M k a b c && noM M od m a b c))) := by
  unfold lbE
  rw [lo_cnt M od 9 m _ _ _ hm (by have := pcn_le m; omega)]
  refine congrArg nI (cn3_congr (fun a b c _ _ _ => ?_))
  rw [hasb_and, hasb_and, hasb_and]
  unfold maF
  cases hasb (M.1 (33 + 3 * j) 0) a <;> cases hasb (M.1 (33 + 3 * j) 1) b <;> cases hasb (M.1 (33 + 3 * j) 2) c <;> cases hasb (M.1 (33 + 3 * k) 0) a <;> cases hasb (M.1 (33 + 3 * k) 1) b <;> cases hasb (M.1 (33 + 3 * k) 2) c <;> rfl
theorem pb_cnt (M : pmM) (j k : Nat) : pbE M j k = nI (cn3 (fun a b c => maF M j a b c && maF M k a b c)) := by
  unfold pbE
  rw [pkE_cnt]
  refine congrArg nI (cn3_congr (fun a b c _ _ _ => ?_))
  rw [hasb_and, hasb_and, hasb_and]
  unfold maF
  cases hasb (M.1 (33 + 3 * j) 0) a <;> cases hasb (M.1 (33 + 3 * j) 1) b <;> cases hasb (M.1 (33 + 3 * j) 2) c <;> cases hasb (M.1 (33 + 3 * k) 0) a <;> cases hasb (M.1 (33 + 3 * k) 1) b <;> cases hasb (M.1 (33 + 3 * k) 2) c <;> rfl
