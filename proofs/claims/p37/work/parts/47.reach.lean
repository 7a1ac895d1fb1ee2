/-! ===== which objects an object reaches ===== -/
def rch (mc : Nat → Nat) (mb : Nat → Nat → Nat) : Nat → Nat → Nat → Bool
  | 0, o, x => decide (o = x)
  | n + 1, o, x => decide (o = x) || anyB (fun k => rch mc mb n (mb o k) x) (mc o)
section RCH
variable {oc : Nat} {mc : Nat → Nat} {mb : Nat → Nat → Nat}
theorem rch_self (n x : Nat) : rch mc mb n x x = true := by
  cases n with
  | zero => exact decide_eq_true rfl
  | succ n => rw [rch, decide_eq_true rfl, Bool.true_or]
theorem rch_s (n o x : Nat) : rch mc mb (n + 1) o x = true ↔ o = x ∨ ∃ k, k < mc o ∧ rch mc mb n (mb o k) x = true := by
  rw [rch, Bool.or_eq_true, anyB_iff, decide_eq_true_iff]
theorem rch_mono : ∀ (n o x : Nat), rch mc mb n o x = true → rch mc mb (n + 1) o x = true
  | 0, o, x, h => (rch_s 0 o x).mpr (Or.inl (of_decide_eq_true h))
  | n + 1, o, x, h => by
    rcases (rch_s n o x).mp h with h | ⟨k, h1, h2⟩
    · exact (rch_s _ o x).mpr (Or.inl h)
    · exact (rch_s _ o x).mpr (Or.inr ⟨k, h1, rch_mono n _ x h2⟩)
theorem rch_le {n m o x : Nat} (h : n ≤ m) (hr : rch mc mb n o x = true) : rch mc mb m o x = true := by
  obtain ⟨k, rfl⟩ : ∃ k, m = n + k := ⟨m - n, by omega⟩
  clear h
  induction k with
  | zero => exact hr
  | succ k ih => exact rch_mono _ _ _ ih
theorem cnt_le {b b' : Nat → Bool} : ∀ n, (∀ i, i < n → b i = true → b' i = true) → cntN b n ≤ cntN b' n
  | 0, _ => Nat.le_refl 0
  | n + 1, h => by
    have ih := cnt_le n (fun i hi => h i (by omega))
    rw [cntN, cntN]
    by_cases q : b n = true
    · rw [if_pos q, if_pos (h n (by omega) q)]; omega
    · rw [if_neg q]; split <;> omega
theorem cnt_eq {b b' : Nat → Bool} : ∀ n, (∀ i, i < n → b i = true → b' i = true) → cntN b' n ≤ cntN b n → ∀ i, i < n → b' i = true → b i = true
  | 0, _, _, i, hi, _ => absurd hi (Nat.not_lt_zero i)
  | n + 1, h, hc, i, hi, hb => by
    have hle := cnt_le n (fun i hi => h i (by omega))
    rw [cntN, cntN] at hc
    by_cases q : b n = true
    · rw [if_pos q, if_pos (h n (by omega) q)] at hc
      by_cases e : i = n
      · rw [e]; exact q
      · exact cnt_eq n (fun i hi => h i (by omega)) (by omega) i (by omega) hb
    · rw [if_neg q] at hc
      by_cases q2 : b' n = true
      · rw [if_pos q2] at hc; omega
      · rw [if_neg q2] at hc
        by_cases e : i = n
        · rw [e] at hb; exact absurd hb q2
        · exact cnt_eq n (fun i hi => h i (by omega)) hc i (by omega) hb
theorem cnt_pos {b : Nat → Bool} {i n : Nat} (h : b i = true) (hi : i < n) : 1 ≤ cntN b n := by
  have e := cntN_1 (fun j => b (i + j))
  obtain ⟨k, rfl⟩ : ∃ k, n = i + (1 + k) := ⟨n - i - 1, by omega⟩
  rw [cntN_add, cntN_add, e]
  show 1 ≤ _ + ((b (i + 0)).toNat + _)
  rw [Nat.add_zero, h]
  show 1 ≤ _ + (1 + _)
  omega
theorem rch_st (hb : ∀ o k, o < oc → k < mc o → mb o k < oc) {x : Nat} (hx : x < oc) : ∀ n, (∀ o, o < oc → rch mc mb (n + 1) o x = true → rch mc mb n o x = true) ∨ n + 1 ≤ cntN (fun o => rch mc mb n o x) oc
  | 0 => Or.inr (cnt_pos (i := x) (rch_self 0 x) hx)
  | n + 1 => by
    have step : (∀ o, o < oc → rch mc mb (n + 1) o x = true → rch mc mb n o x = true) → ∀ o, o < oc → rch mc mb (n + 2) o x = true → rch mc mb (n + 1) o x = true := fun h o ho hr => by
      rcases (rch_s (n + 1) o x).mp hr with h1 | ⟨k, h1, h2⟩
      · exact (rch_s n o x).mpr (Or.inl h1)
      · exact (rch_s n o x).mpr (Or.inr ⟨k, h1, h _ (hb o k ho h1) h2⟩)
    rcases rch_st hb hx n with h | h
    · exact Or.inl (step h)
    · by_cases q : cntN (fun o => rch mc mb (n + 1) o x) oc ≤ cntN (fun o => rch mc mb n o x) oc
      · exact Or.inl (step (cnt_eq oc (fun o _ hr => rch_mono n o x hr) q))
      · exact Or.inr (by omega)
theorem rch_7 (hb : ∀ o k, o < oc → k < mc o → mb o k < oc) (h8 : oc ≤ 8) {x : Nat} (hx : x < oc) : ∀ n o, o < oc → rch mc mb n o x = true → rch mc mb 7 o x = true := by
  have hs : ∀ o, o < oc → rch mc mb 8 o x = true → rch mc mb 7 o x = true := by
    rcases rch_st hb hx 7 with h | h
    · exact h
    · have := cntN_le (fun o => rch mc mb 8 o x) oc
      exact cnt_eq oc (fun o _ hr => rch_mono 7 o x hr) (by omega)
  intro n
  induction n with
  | zero => intro o _ hr; exact rch_le (by decide) hr
  | succ n ih =>
    intro o ho hr
    rcases (rch_s n o x).mp hr with h1 | ⟨k, h1, h2⟩
    · exact rch_le (show 0 ≤ 7 by decide) (decide_eq_true h1)
    · exact hs o ho ((rch_s 7 o x).mpr (Or.inr ⟨k, h1, ih _ (hb o k ho h1) h2⟩))
/-! the class's closure -/
theorem hasb_orIf (b : Nat → Bool) (g : Nat → Int32) (s : Int32) (v : Nat) : ∀ n, hasb (orIf b g s n) v = true ↔ hasb s v = true ∨ ∃ i, i < n ∧ b i = true ∧ hasb (g i) v = true
  | 0 => by
    constructor
    · intro h; exact Or.inl h
    · rintro (h | ⟨i, h, -⟩)
      · exact h
      · exact absurd h (Nat.not_lt_zero i)
  | n + 1 => by
    have ih := hasb_orIf b g s v n
    by_cases q : b n = true
    · rw [orIf_t q, hasb_or, Bool.or_eq_true, ih]
      constructor
      · rintro ((h | ⟨i, h1, h2⟩) | h)
        · exact Or.inl h
        · exact Or.inr ⟨i, by omega, h2⟩
        · exact Or.inr ⟨n, by omega, q, h⟩
      · rintro (h | ⟨i, h1, h2, h3⟩)
        · exact Or.inl (Or.inl h)
        · by_cases e : i = n
          · subst e; exact Or.inr h3
          · exact Or.inl (Or.inr ⟨i, by omega, h2, h3⟩)
    · rw [orIf_f (Bool.not_eq_true _ |>.mp q), ih]
      constructor
      · rintro (h | ⟨i, h1, h2⟩)
        · exact Or.inl h
        · exact Or.inr ⟨i, by omega, h2⟩
      · rintro (h | ⟨i, h1, h2, h3⟩)
        · exact Or.inl h
        · by_cases e : i = n
          · subst e; exact absurd h2 q
          · exact Or.inr ⟨i, by omega, h2, h3⟩
/-- the members' bits are the members -/
def MB (M : pmM) (oc : Nat) (mc : Nat → Nat) (mb : Nat → Nat → Nat) : Prop := ∀ o, o < oc → ∀ i, i < 32 → (hasb (M.1 (15 + 2 * o) 2) i = true ↔ ∃ k, k < mc o ∧ mb o k = i)
theorem hasb_n0 (v : Nat) : hasb (nI 0) v = false := hasb_0 v
theorem vo_iff {M : pmM} {rg : Nat → Nat} (hb : ∀ o k, o < oc → k < mc o → mb o k < oc) (h8 : oc ≤ 8) (hm : MB M oc mc mb) (v : Nat) : ∀ (f o : Nat), o < oc → (hasb (voF M rg (f + 1) o) v = true ↔ ∃ x, x < oc ∧ rch mc mb f o x = true ∧ hasb (orN (M.1 (16 + 2 * x)) (rg x)) v = true)
  | 0, o, ho => by
    rw [voF, hasb_orIf]
    constructor
    · rintro (h | ⟨i, -, -, h⟩)
      · exact ⟨o, ho, rch_self 0 o, h⟩
      · rw [voF, hasb_n0] at h; exact Bool.noConfusion h
    · rintro ⟨x, -, h1, h2⟩
      have e : o = x := of_decide_eq_true h1
      subst e; exact Or.inl h2
  | f + 1, o, ho => by
    rw [voF, hasb_orIf]
    constructor
    · rintro (h | ⟨i, h1, h2, h3⟩)
      · exact ⟨o, ho, rch_self _ o, h⟩
      · obtain ⟨k, hk, rfl⟩ := (hm o ho i (by omega)).mp h2
        obtain ⟨x, x1, x2, x3⟩ := (vo_iff hb h8 hm v f _ (hb o k ho hk)).mp h3
        exact ⟨x, x1, (rch_s f o x).mpr (Or.inr ⟨k, hk, x2⟩), x3⟩
    · rintro ⟨x, x1, x2, x3⟩
      rcases (rch_s f o x).mp x2 with rfl | ⟨k, hk, h2⟩
      · exact Or.inl x3
      · have hbk := hb o k ho hk
        exact Or.inr ⟨mb o k, by omega, (hm o ho _ (by omega)).mpr ⟨k, hk, rfl⟩, (vo_iff hb h8 hm v f _ hbk).mpr ⟨x, x1, h2, x3⟩⟩
theorem nd_iff {M : pmM} (hb : ∀ o k, o < oc → k < mc o → mb o k < oc) (h8 : oc ≤ 8) (hm : MB M oc mc mb) {x : Nat} (hx : x < oc) : ∀ (f o : Nat), o < oc → (ndF M (f + 1) o x = true ↔ ∃ k, k < mc o ∧ rch mc mb f (mb o k) x = true)
  | 0, o, ho => by
    rw [ndF, Bool.or_eq_true, anyB_iff, hm o ho x (by omega)]
    constructor
    · rintro (⟨k, hk, rfl⟩ | ⟨i, -, h⟩)
      · exact ⟨k, hk, rch_self 0 _⟩
      · rw [ndF, Bool.and_false] at h; exact Bool.noConfusion h
    · rintro ⟨k, hk, h⟩
      exact Or.inl ⟨k, hk, of_decide_eq_true h⟩
  | f + 1, o, ho => by
    rw [ndF, Bool.or_eq_true, anyB_iff, hm o ho x (by omega)]
    constructor
    · rintro (⟨k, hk, rfl⟩ | ⟨i, hi, h⟩)
      · exact ⟨k, hk, rch_self _ _⟩
      · obtain ⟨h1, h2⟩ := (Bool.and_eq_true _ _ ▸ h : _ ∧ _)
        obtain ⟨k, hk, rfl⟩ := (hm o ho i (by omega)).mp h1
        obtain ⟨k2, hk2, h3⟩ := (nd_iff hb h8 hm hx f _ (hb o k ho hk)).mp h2
        exact ⟨k, hk, (rch_s f _ x).mpr (Or.inr ⟨k2, hk2, h3⟩)⟩
    · rintro ⟨k, hk, h⟩
      have hbk := hb o k ho hk
      rcases (rch_s f _ x).mp h with e | ⟨k2, hk2, h3⟩
      · exact Or.inl ⟨k, hk, e⟩
      · refine Or.inr ⟨mb o k, by omega, ?_⟩
        rw [Bool.and_eq_true]
        exact ⟨(hm o ho _ (by omega)).mpr ⟨k, hk, rfl⟩, (nd_iff hb h8 hm hx f _ hbk).mpr ⟨k2, hk2, h3⟩⟩
/-- an object is or needs another one: it reaches it -/
theorem ion_iff {M : pmM} (hb : ∀ o k, o < oc → k < mc o → mb o k < oc) (h8 : oc ≤ 8) (hm : MB M oc mc mb) {o x : Nat} (ho : o < oc) (hx : x < oc) : ionF M (nI o) x = true ↔ rch mc mb 7 o x = true := by
  unfold ionF
  rw [Bool.and_eq_true, Bool.or_eq_true, decide_eq_true_iff, decide_eq_true_iff, ixN_nI (by omega), nd_iff hb h8 hm hx 7 o ho, nI_eq (by omega) (by omega)]
  constructor
  · rintro ⟨-, h⟩
    exact rch_7 hb h8 hx 8 o ho ((rch_s 7 o x).mpr h)
  · intro h
    exact ⟨nI_m1 (by omega), (rch_s 7 o x).mp (rch_mono 7 o x h)⟩
end RCH
