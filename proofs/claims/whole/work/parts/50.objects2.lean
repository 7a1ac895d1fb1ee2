/-! ===== values of objects, what rules match, the main shadow ===== -/
theorem hasb_ext {x y : Int32} (h : ∀ v, v < 32 → hasb x v = hasb y v) : x = y := by
  apply Int32.toBitVec_inj.mp
  apply BitVec.eq_of_getLsbD_eq
  intro i hi
  exact h i hi
theorem hasb_orN (f : Nat → Int32) (v : Nat) : ∀ n, (hasb (orN f n) v = true ↔ ∃ k, k < n ∧ hasb (f k) v = true)
  | 0 => by
    constructor
    · intro h; rw [orN, hasb_n0] at h; exact Bool.noConfusion h
    · rintro ⟨k, h, -⟩; exact absurd h (Nat.not_lt_zero k)
  | n + 1 => by
    rw [orN, hasb_or, Bool.or_eq_true, hasb_orN f v n]
    constructor
    · rintro (⟨k, h1, h2⟩ | h)
      · exact ⟨k, by omega, h2⟩
      · exact ⟨n, by omega, h⟩
    · rintro ⟨k, h1, h2⟩
      by_cases e : k = n
      · subst e; exact Or.inr h2
      · exact Or.inl ⟨k, by omega, h2⟩
/-- the class's objects are the model's -/
def OT (M : pmM) (oc : Nat) (rg mc : Nat → Nat) (lo hi mb : Nat → Nat → Nat) : Prop :=
  oc ≤ 8 ∧ (∀ o k, o < oc → k < mc o → mb o k < oc) ∧ MB M oc mc mb ∧ ∀ o k, o < oc → k < rg o → M.1 (16 + 2 * o) k = rgO (lo o k) (hi o k)
section OBJ
variable {M : pmM} {oc : Nat} {rg mc : Nat → Nat} {lo hi mb : Nat → Nat → Nat}
theorem own_iff (h : OT M oc rg mc lo hi mb) {o : Nat} (ho : o < oc) (v : Nat) : hasb (orN (M.1 (16 + 2 * o)) (rg o)) v = true ↔ ∃ k, k < rg o ∧ hasb (rgO (lo o k) (hi o k)) v = true := by
  rw [hasb_orN]
  constructor
  · rintro ⟨k, h1, h2⟩; exact ⟨k, h1, by rw [← h.2.2.2 o k ho h1]; exact h2⟩
  · rintro ⟨k, h1, h2⟩; exact ⟨k, h1, by rw [h.2.2.2 o k ho h1]; exact h2⟩
theorem vo_sc (h : OT M oc rg mc lo hi mb) {o : Nat} (ho : o < oc) : voF M rg 8 o = ScF oc rg mc lo hi mb (-1) (nI 0) o := by
  refine hasb_ext (fun v _ => ?_)
  rw [Bool.eq_iff_iff, vo_iff h.2.1 h.1 h.2.2.1 v 7 o ho, sc_iff h.2.1 h.1 ho]
  constructor
  · rintro ⟨x, x1, x2, x3⟩
    exact ⟨x, x1, x2, Or.inr ((own_iff h x1 v).mp x3)⟩
  · rintro ⟨x, x1, x2, x3⟩
    refine ⟨x, x1, x2, (own_iff h x1 v).mpr ?_⟩
    rcases x3 with ⟨e, -⟩ | x3
    · exact absurd e (nI_m1 (by have := h.1; omega))
    · exact x3
theorem mt_st (h : OT M oc rg mc lo hi mb) {x : Int32} (hx : obOk oc x) : mtv M rg x = stC (ScF oc rg mc lo hi mb (-1) (nI 0)) x := by
  have h8 := h.1
  unfold mtv stC
  rcases hx with rfl | ⟨o, ho, rfl⟩
  · rw [if_pos rfl, if_pos rfl]
  · rw [if_neg (nI_m1 (by omega)), if_neg (nI_m1 (by omega)), ixN_nI (by omega), vo_sc h ho]
theorem more_iff (h : OT M oc rg mc lo hi mb) {o x v : Nat} (ho : o < oc) (hx : x < oc) (fv : Int32) : hasb (ScF oc rg mc lo hi mb (nI o) fv x) v = true ↔ hasb (ScF oc rg mc lo hi mb (-1) (nI 0) x) v = true ∨ (rch mc mb 7 x o = true ∧ hasb fv v = true) := by
  have h8 := h.1
  rw [sc_iff h.2.1 h.1 hx, sc_iff h.2.1 h.1 hx]
  constructor
  · rintro ⟨y, y1, y2, y3⟩
    rcases y3 with ⟨e, y3⟩ | y3
    · have e := (nI_eq (by omega) (by omega)).mp e
      subst e
      exact Or.inr ⟨y2, y3⟩
    · exact Or.inl ⟨y, y1, y2, Or.inr y3⟩
  · rintro (⟨y, y1, y2, y3⟩ | ⟨y2, y3⟩)
    · refine ⟨y, y1, y2, Or.inr ?_⟩
      rcases y3 with ⟨e, -⟩ | y3
      · exact absurd e (nI_m1 (by omega))
      · exact y3
    · exact ⟨o, ho, y2, Or.inl ⟨rfl, y3⟩⟩
theorem th_st (h : OT M oc rg mc lo hi mb) {od : Nat → Nat} {i f o v : Nat} (ho : o < oc) {fv : Int32} (hx : obOk oc (M.1 (32 + 3 * od i) f)) (hm : M.1 (33 + 3 * od i) f = stC (ScF oc rg mc lo hi mb (-1) (nI 0)) (M.1 (32 + 3 * od i) f)) : hasb (thF M od f (nI o) fv i) v = hasb (stC (ScF oc rg mc lo hi mb (nI o) fv) (M.1 (32 + 3 * od i) f)) v := by
  have h8 := h.1
  unfold thF
  rw [ixN_nI (show o < 8 by omega), hm]
  generalize M.1 (32 + 3 * od i) f = x at hx
  rcases hx with rfl | ⟨y, hy, rfl⟩
  · rw [if_neg (fun z => by
      have := z.2
      unfold ionF at this
      rw [Bool.and_eq_true, decide_eq_true_iff] at this
      exact this.1 rfl)]
    unfold stC
    rw [if_pos rfl, if_pos rfl]
  · unfold stC
    rw [if_neg (nI_m1 (by omega)), if_neg (nI_m1 (by omega)), ixN_nI (by omega), Bool.eq_iff_iff, more_iff h ho hy]
    by_cases c : ¬ fv = 0 ∧ ionF M (nI y) o = true
    · rw [if_pos c, hasb_or, Bool.or_eq_true]
      have := (ion_iff h.2.1 h.1 h.2.2.1 hy ho).mp c.2
      constructor
      · rintro (a | a)
        · exact Or.inl a
        · exact Or.inr ⟨this, a⟩
      · rintro (a | a)
        · exact Or.inl a
        · exact Or.inr a.2
    · rw [if_neg c]
      constructor
      · intro a; exact Or.inl a
      · rintro (a | ⟨a, b⟩)
        · exact a
        · have hi := (ion_iff h.2.1 h.1 h.2.2.1 hy ho).mpr a
          by_cases z : fv = 0
          · rw [z, hasb_0] at b; exact Bool.noConfusion b
          · exact absurd ⟨z, hi⟩ c
end OBJ
section MS
variable {M : pmM} {S : Nat → Int32} {od mo : Nat → Nat} {rc : Nat}
theorem pb_cm (hon : ∀ p, p < rc → inF M od p = onM M (mo p)) (hm : ∀ p f, p < rc → f < 3 → M.1 (33 + 3 * od p) f = stC S (M.1 (74) (3 * mo p + f))) {p q : Nat} (hp : p < rc) (hq : q < rc) : cmN M S mo p q 3 = if inF M od q = true then cntN (hasb (M.1 (33 + 3 * od q) 0 &&& M.1 (33 + 3 * od p) 0)) 32 * cntN (hasb (M.1 (33 + 3 * od q) 1 &&& M.1 (33 + 3 * od p) 1)) 32 * cntN (hasb (M.1 (33 + 3 * od q) 2 &&& M.1 (33 + 3 * od p) 2)) 32 else 0 := by
  rw [hon q hq, hm q 0 hq (by decide), hm q 1 hq (by decide), hm q 2 hq (by decide), hm p 0 hp (by decide), hm p 1 hp (by decide), hm p 2 hp (by decide)]
  simp only [cmN]
  by_cases h : onM M (mo q) = true
  · rw [if_pos h, if_pos h, Nat.one_mul]
  · rw [if_neg h, if_neg h, Nat.zero_mul, Nat.zero_mul, Nat.zero_mul]
theorem pb_nat (j k : Nat) : pbE M j k = nI (cntN (hasb (M.1 (33 + 3 * j) 0 &&& M.1 (33 + 3 * k) 0)) 32 * cntN (hasb (M.1 (33 + 3 * j) 1 &&& M.1 (33 + 3 * k) 1)) 32 * cntN (hasb (M.1 (33 + 3 * j) 2 &&& M.1 (33 + 3 * k) 2)) 32) := by
  unfold pbE pkE
  rw [bcE_cnt, bcE_cnt, bcE_cnt, pk_mul, pk_mul]
theorem cnt3_le (a b c : Nat → Bool) : cntN a 32 * cntN b 32 * cntN c 32 ≤ 32768 := Nat.mul_le_mul (Nat.mul_le_mul (cntN_le a 32) (cntN_le b 32)) (cntN_le c 32)
theorem ms_ms (hon : ∀ p, p < rc → inF M od p = onM M (mo p)) (hm : ∀ p f, p < rc → f < 3 → M.1 (33 + 3 * od p) f = stC S (M.1 (74) (3 * mo p + f))) {p : Nat} (hp : p < rc) : ∀ n, n ≤ p → (msF M od p n).1 = nI (msG M S mo p n).1 ∧ (((msG M S mo p n).2 = -1 ∧ (msG M S mo p n).1 = 0 ∧ (msF M od p n).2 = -1) ∨ ∃ q, q < n ∧ (msG M S mo p n).2 = nI q ∧ 0 < (msG M S mo p n).1 ∧ (msF M od p n).2 = M.1 (31 + 3 * od q) 0)
  | 0, _ => ⟨rfl, Or.inl ⟨rfl, rfl, rfl⟩⟩
  | n + 1, hn => by
    obtain ⟨i1, i2⟩ := ms_ms hon hm hp n (by omega)
    have hle := msG_le M S mo p n
    have hcm := pb_cm hon hm hp (show n < rc by omega)
    have hpb := pb_nat (M := M) (od n) (od p)
    have hc3 := cnt3_le (hasb (M.1 (33 + 3 * od n) 0 &&& M.1 (33 + 3 * od p) 0)) (hasb (M.1 (33 + 3 * od n) 1 &&& M.1 (33 + 3 * od p) 1)) (hasb (M.1 (33 + 3 * od n) 2 &&& M.1 (33 + 3 * od p) 2))
    rw [msF, msG]
    generalize cntN (hasb (M.1 (33 + 3 * od n) 0 &&& M.1 (33 + 3 * od p) 0)) 32 * cntN (hasb (M.1 (33 + 3 * od n) 1 &&& M.1 (33 + 3 * od p) 1)) 32 * cntN (hasb (M.1 (33 + 3 * od n) 2 &&& M.1 (33 + 3 * od p) 2)) 32 = X at hcm hpb hc3
    rw [i1, hpb, hcm]
    by_cases hi : inF M od n = true
    · rw [if_pos hi]
      by_cases hlt : (msG M S mo p n).1 < X
      · rw [if_pos ⟨hi, (nI_ltI (by omega) (by omega)).mpr hlt⟩, if_pos hlt]
        exact ⟨rfl, Or.inr ⟨n, by omega, rfl, by show 0 < X; omega, rfl⟩⟩
      · rw [if_neg (fun z => hlt ((nI_ltI (by omega) (by omega)).mp z.2)), if_neg hlt]
        refine ⟨i1, ?_⟩
        rcases i2 with h | ⟨q, q1, q2⟩
        · exact Or.inl h
        · exact Or.inr ⟨q, by omega, q2⟩
    · rw [if_neg hi, if_neg (fun z => hi z.1), if_neg (Nat.not_lt_zero _)]
      refine ⟨i1, ?_⟩
      rcases i2 with h | ⟨q, q1, q2⟩
      · exact Or.inl h
      · exact Or.inr ⟨q, by omega, q2⟩
theorem ma_sz (hm : ∀ p f, p < rc → f < 3 → M.1 (33 + 3 * od p) f = stC S (M.1 (74) (3 * mo p + f))) {p : Nat} (hp : p < rc) : pbE M (od p) (od p) = nI (szC S (M.1 74 (3 * mo p + 0)) * szC S (M.1 74 (3 * mo p + 1)) * szC S (M.1 74 (3 * mo p + 2))) := by
  have e : ∀ x : Int32, x &&& x = x := fun x => hasb_ext (fun v _ => by rw [hasb_and]; cases hasb x v <;> rfl)
  rw [pb_nat, e, e, e, hm p 0 hp (by decide), hm p 1 hp (by decide), hm p 2 hp (by decide)]
  rfl
end MS
