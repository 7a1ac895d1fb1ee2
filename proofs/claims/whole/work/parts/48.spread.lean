/-! ===== the model's closures ===== -/
section SPR
variable {oc : Nat} {rg mc : Nat → Nat} {lo hi mb : Nat → Nat → Nat} {ob more : Int32}
/-- an object's own values, by the model; ob has more -/
def owV (rg : Nat → Nat) (lo hi : Nat → Nat → Nat) (ob more : Int32) (o v : Nat) : Prop := (nI o = ob ∧ hasb more v = true) ∨ ∃ k, k < rg o ∧ hasb (rgO (lo o k) (hi o k)) v = true
theorem sp1K_at (o v : Nat) (T : Nat → Int32) : ∀ n, (hasb (itF (sp1K lo hi o) T n o) v = true ↔ hasb (T o) v = true ∨ ∃ k, k < n ∧ hasb (rgO (lo o k) (hi o k)) v = true)
  | 0 => by
    constructor
    · intro h; exact Or.inl h
    · rintro (h | ⟨k, h, -⟩)
      · exact h
      · exact absurd h (Nat.not_lt_zero k)
  | n + 1 => by
    rw [itF_s, sp1K, pk_us, hasb_or, Bool.or_eq_true, sp1K_at o v T n]
    constructor
    · rintro ((h | ⟨k, h1, h2⟩) | h)
      · exact Or.inl h
      · exact Or.inr ⟨k, by omega, h2⟩
      · exact Or.inr ⟨n, by omega, h⟩
    · rintro (h | ⟨k, h1, h2⟩)
      · exact Or.inl (Or.inl h)
      · by_cases e : k = n
        · subst e; exact Or.inr h2
        · exact Or.inl (Or.inr ⟨k, by omega, h2⟩)
theorem sp1_at (v : Nat) (S : Nat → Int32) : ∀ n o, o < n → (hasb (itF (sp1 rg lo hi ob more) S n o) v = true ↔ owV rg lo hi ob more o v)
  | 0, o, h => absurd h (Nat.not_lt_zero o)
  | n + 1, o, h => by
    rw [itF_s, sp1]
    by_cases e : o = n
    · subst e
      rw [sp1K_at, pk_us]
      unfold owV
      by_cases q : nI o = ob
      · rw [if_pos q]; simp [q]
      · rw [if_neg q, hasb_n0]; simp [q]
    · rw [sp1K_ne _ _ _ _ e, pk_un e]
      exact sp1_at v S n o (by omega)
/-- the bits of the values only grow, and come from what is reached -/
def upS (oc : Nat) (mc : Nat → Nat) (mb : Nat → Nat → Nat) (P : Nat → Nat → Prop) (S : Nat → Int32) : Prop := ∀ o v, o < oc → hasb (S o) v = true → ∃ n x, x < oc ∧ rch mc mb n o x = true ∧ P x v
theorem spK_up (hb : ∀ o k, o < oc → k < mc o → mb o k < oc) {P : Nat → Nat → Prop} {S : Nat → Int32} (h : upS oc mc mb P S) {o k : Nat} (ho : o < oc) (hk : k < mc o) : upS oc mc mb P (spK mb o k S) := by
  intro q v hq hv
  unfold spK at hv
  by_cases e : q = o
  · subst e
    rw [pk_us, hasb_or, Bool.or_eq_true] at hv
    rcases hv with hv | hv
    · exact h q v hq hv
    · obtain ⟨n, x, x1, x2, x3⟩ := h _ v (hb q k ho hk) hv
      exact ⟨n + 1, x, x1, (rch_s n q x).mpr (Or.inr ⟨k, hk, x2⟩), x3⟩
  · rw [pk_un e] at hv
    exact h q v hq hv
theorem spK_gr (mb : Nat → Nat → Nat) (o k : Nat) (S : Nat → Int32) (q v : Nat) (h : hasb (S q) v = true) : hasb (spK mb o k S q) v = true := by
  unfold spK
  by_cases e : q = o
  · subst e; rw [pk_us, hasb_or, h, Bool.true_or]
  · rw [pk_un e]; exact h
theorem itK_gr (mb : Nat → Nat → Nat) (o : Nat) (S : Nat → Int32) (q v : Nat) (h : hasb (S q) v = true) : ∀ n, hasb (itF (spK mb o) S n q) v = true
  | 0 => h
  | n + 1 => by rw [itF_s]; exact spK_gr mb o n _ q v (itK_gr mb o S q v h n)
theorem itO_gr (mc : Nat → Nat) (mb : Nat → Nat → Nat) (S : Nat → Int32) (q v : Nat) (h : hasb (S q) v = true) : ∀ n, hasb (itF (spO mc mb) S n q) v = true
  | 0 => h
  | n + 1 => by rw [itF_s]; exact itK_gr mb n _ q v (itO_gr mc mb S q v h n) _
theorem itK_get (mb : Nat → Nat → Nat) (o : Nat) (S : Nat → Int32) (v : Nat) : ∀ n k, k < n → hasb (S (mb o k)) v = true → hasb (itF (spK mb o) S n o) v = true
  | 0, k, h, _ => absurd h (Nat.not_lt_zero k)
  | n + 1, k, h, hv => by
    rw [itF_s]
    by_cases e : k = n
    · subst e
      rw [spK, pk_us, hasb_or, itK_gr mb o S _ v hv, Bool.or_true]
    · exact spK_gr mb o n _ o v (itK_get mb o S v n k (by omega) hv)
theorem itO_get (mc : Nat → Nat) (mb : Nat → Nat → Nat) (S : Nat → Int32) (v : Nat) : ∀ n o k, o < n → k < mc o → hasb (S (mb o k)) v = true → hasb (itF (spO mc mb) S n o) v = true
  | 0, o, _, h, _, _ => absurd h (Nat.not_lt_zero o)
  | n + 1, o, k, h, hk, hv => by
    rw [itF_s]
    by_cases e : o = n
    · subst e
      exact itK_get mb o _ v (mc o) k hk (itO_gr mc mb S _ v hv o)
    · exact itK_gr mb n _ o v (itO_get mc mb S v n o k (by omega) hk hv) _
theorem itO_up (hb : ∀ o k, o < oc → k < mc o → mb o k < oc) {P : Nat → Nat → Prop} {S : Nat → Int32} (h : upS oc mc mb P S) : ∀ n, n ≤ oc → upS oc mc mb P (itF (spO mc mb) S n)
  | 0, _ => h
  | n + 1, hn => by
    have ih := itO_up hb h n (by omega)
    rw [itF_s, spO]
    generalize itF (spO mc mb) S n = T at ih
    have H : ∀ k, k ≤ mc n → upS oc mc mb P (itF (spK mb n) T k) := by
      intro k
      induction k with
      | zero => intro _; exact ih
      | succ k ihk => intro hk; rw [itF_s]; exact spK_up hb (ihk (by omega)) (by omega) (by omega)
    exact H _ (Nat.le_refl _)
theorem sc_iff (hb : ∀ o k, o < oc → k < mc o → mb o k < oc) (h8 : oc ≤ 8) {o v : Nat} (ho : o < oc) : hasb (ScF oc rg mc lo hi mb ob more o) v = true ↔ ∃ x, x < oc ∧ rch mc mb 7 o x = true ∧ owV rg lo hi ob more x v := by
  unfold ScF spS
  have s0 : ∀ o, o < oc → (hasb (itF (sp1 rg lo hi ob more) (fun _ => nI 0) oc o) v = true ↔ owV rg lo hi ob more o v) := fun o ho => sp1_at v _ oc o ho
  have u0 : upS oc mc mb (owV rg lo hi ob more) (itF (sp1 rg lo hi ob more) (fun _ => nI 0) oc) := fun o v ho h => ⟨0, o, ho, rch_self 0 o, (sp1_at v _ oc o ho).mp h⟩
  generalize itF (sp1 rg lo hi ob more) (fun _ => nI 0) oc = S0 at s0 u0
  have hu : ∀ r, upS oc mc mb (owV rg lo hi ob more) (itF (spR oc mc mb) S0 r) := by
    intro r
    induction r with
    | zero => exact u0
    | succ r ih => rw [itF_s, spR]; exact itO_up hb ih oc (Nat.le_refl _)
  have hl : ∀ r o x, o < oc → x < oc → rch mc mb r o x = true → owV rg lo hi ob more x v → hasb (itF (spR oc mc mb) S0 r o) v = true := by
    intro r
    induction r with
    | zero =>
      intro o x ho hx hr hw
      have e : o = x := of_decide_eq_true hr
      subst e
      exact (s0 o ho).mpr hw
    | succ r ih =>
      intro o x ho hx hr hw
      rw [itF_s, spR]
      rcases (rch_s r o x).mp hr with rfl | ⟨k, hk, h2⟩
      · exact itO_gr mc mb _ o v (ih o o ho hx (rch_self r o) hw) oc
      · exact itO_get mc mb _ v oc o k ho hk (ih _ x (hb o k ho hk) hx h2 hw)
  constructor
  · intro h
    obtain ⟨n, x, x1, x2, x3⟩ := hu 8 o v ho h
    exact ⟨x, x1, rch_7 hb h8 x1 n o ho x2, x3⟩
  · rintro ⟨x, x1, x2, x3⟩
    exact hl 8 o x ho x1 (rch_mono 7 o x x2) x3
/-! which objects depend on one -/
theorem dpK_iff (o k q : Nat) (s : Int32) (ho : o < 32) (hq : q < 32) : hasb (dpK mb o k s) q = true ↔ hasb s q = true ∨ (q = o ∧ hasb s (mb o k) = true) := by
  have e1 : ∀ o, o < 32 → ∀ q, q < 32 → hasb (nI 1 <<< (nI o &&& 31)) q = decide (q = o) := by decide +kernel
  unfold dpK
  by_cases h : hasb s (mb o k) = true
  · rw [if_pos h, hasb_or, Bool.or_eq_true, e1 o ho q hq, decide_eq_true_iff]
    constructor
    · rintro (a | a)
      · exact Or.inl a
      · exact Or.inr ⟨a, h⟩
    · rintro (a | a)
      · exact Or.inl a
      · exact Or.inr a.1
  · rw [if_neg h]
    constructor
    · intro a; exact Or.inl a
    · rintro (a | a)
      · exact a
      · exact absurd a.2 h
theorem dp_iff (hb : ∀ o k, o < oc → k < mc o → mb o k < oc) (h8 : oc ≤ 8) {o x : Nat} (ho : o < oc) (hx : x < oc) : hasb (dpS oc mc mb x) o = true ↔ rch mc mb 7 o x = true := by
  have e1 : ∀ o, o < 32 → ∀ q, q < 32 → hasb (nI 1 <<< (nI o &&& 31)) q = decide (q = o) := by decide +kernel
  unfold dpS
  -- growth
  have gK : ∀ (s : Int32) (o k q : Nat), o < 32 → q < 32 → hasb s q = true → hasb (dpK mb o k s) q = true := fun s o k q h1 h2 h => (dpK_iff o k q s h1 h2).mpr (Or.inl h)
  have gN : ∀ (s : Int32) (o q : Nat), o < 32 → q < 32 → hasb s q = true → ∀ n, hasb (itF (dpK mb o) s n) q = true := by
    intro s o q h1 h2 h n
    induction n with
    | zero => exact h
    | succ n ih => rw [itF_s]; exact gK _ o n q h1 h2 ih
  have gO : ∀ (s : Int32) (q : Nat), q < 32 → hasb s q = true → ∀ n, n ≤ 32 → hasb (itF (dpO mc mb) s n) q = true := by
    intro s q h2 h n
    induction n with
    | zero => intro _; exact h
    | succ n ih => intro hn; rw [itF_s, dpO]; exact gN _ n q (by omega) h2 (ih (by omega)) _
  have getN : ∀ (s : Int32) (o : Nat), o < 32 → ∀ n k, k < n → mb o k < 32 → hasb s (mb o k) = true → hasb (itF (dpK mb o) s n) o = true := by
    intro s o h1 n
    induction n with
    | zero => intro k hk; exact absurd hk (Nat.not_lt_zero k)
    | succ n ih =>
      intro k hk hk2 h
      rw [itF_s]
      by_cases e : k = n
      · subst e; exact (dpK_iff o k o _ h1 h1).mpr (Or.inr ⟨rfl, gN s o _ h1 hk2 h k⟩)
      · exact gK _ o n o h1 h1 (ih k (by omega) hk2 h)
  have getO : ∀ (s : Int32) (n : Nat), n ≤ 32 → ∀ o k, o < n → k < mc o → mb o k < 32 → hasb s (mb o k) = true → hasb (itF (dpO mc mb) s n) o = true := by
    intro s n
    induction n with
    | zero => intro _ o k h; exact absurd h (Nat.not_lt_zero o)
    | succ n ih =>
      intro hn o k h hk hk2 hv
      rw [itF_s, dpO]
      by_cases e : o = n
      · subst e; exact getN _ o (by omega) _ k hk hk2 (gO s _ hk2 hv o (by omega))
      · exact gN _ n o (by omega) (by omega) (ih (by omega) o k (by omega) hk hk2 hv) _
  -- from what is reached
  have upO : ∀ (s : Int32), (∀ q, q < oc → hasb s q = true → ∃ n, rch mc mb n q x = true) → ∀ n, n ≤ oc → ∀ q, q < oc → hasb (itF (dpO mc mb) s n) q = true → ∃ n, rch mc mb n q x = true := by
    intro s hs n
    induction n with
    | zero => intro _; exact hs
    | succ n ih =>
      intro hn
      have ih := ih (by omega)
      rw [itF_s, dpO]
      generalize itF (dpO mc mb) s n = t at ih
      have H : ∀ k, k ≤ mc n → ∀ q, q < oc → hasb (itF (dpK mb n) t k) q = true → ∃ n, rch mc mb n q x = true := by
        intro k
        induction k with
        | zero => intro _; exact ih
        | succ k ihk =>
          intro hk q hq hv
          rw [itF_s] at hv
          rcases (dpK_iff n k q _ (by omega) (by omega)).mp hv with h | ⟨rfl, h⟩
          · exact ihk (by omega) q hq h
          · obtain ⟨m, hm⟩ := ihk (by omega) _ (hb q k hq (by omega)) h
            exact ⟨m + 1, (rch_s m q x).mpr (Or.inr ⟨k, by omega, hm⟩)⟩
      exact H _ (Nat.le_refl _)
  have hu : ∀ r q, q < oc → hasb (itF (dpR oc mc mb) (nI 1 <<< (nI x &&& 31)) r) q = true → ∃ n, rch mc mb n q x = true := by
    intro r
    induction r with
    | zero =>
      intro q hq h
      rw [itF_0, e1 x (by omega) q (by omega)] at h
      have e : q = x := of_decide_eq_true h
      subst e
      exact ⟨0, rch_self 0 q⟩
    | succ r ih => rw [itF_s, dpR]; exact upO _ ih oc (Nat.le_refl _)
  have hl : ∀ r q, q < oc → rch mc mb r q x = true → hasb (itF (dpR oc mc mb) (nI 1 <<< (nI x &&& 31)) r) q = true := by
    intro r
    induction r with
    | zero =>
      intro q hq h
      rw [itF_0, e1 x (by omega) q (by omega)]
      exact decide_eq_true (of_decide_eq_true h)
    | succ r ih =>
      intro q hq h
      rw [itF_s, dpR]
      rcases (rch_s r q x).mp h with rfl | ⟨k, hk, h2⟩
      · exact gO _ q (by omega) (ih q hq (rch_self r q)) oc (by omega)
      · exact getO _ oc (by omega) q k hq hk (by have := hb q k hq hk; omega) (ih _ (hb q k hq hk) h2)
  constructor
  · intro h
    obtain ⟨n, hn⟩ := hu 8 o ho h
    exact rch_7 hb h8 hx n o ho hn
  · intro h
    exact hl 8 o ho (rch_mono 7 o x h)
end SPR
