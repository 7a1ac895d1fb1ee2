/-! ===== the model: books laid, in terms of the memory before ===== -/
def msc (a j : Nat) : Prop := (a = 64 ∧ j = 0) ∨ a = 81 ∨ a = 82 ∨ a = 83
/-- the same but for the model's scratch -/
def MS (M N : pmM) : Prop := N.2 = M.2 ∧ ∀ a j, ¬ msc a j → N.1 a j = M.1 a j
theorem MS.rf (M : pmM) : MS M M := ⟨rfl, fun _ _ _ => rfl⟩
theorem MS.tr {M N P : pmM} (h : MS M N) (h' : MS N P) : MS M P := ⟨h'.1.trans h.1, fun a j q => (h'.2 a j q).trans (h.2 a j q)⟩
theorem MS.cd {M N : pmM} (h : MS M N) (k : Nat) : MS M (cdM N k) := ⟨h.1, fun a j q => (cdM_no (by unfold msc at q; omega)).trans (h.2 a j q)⟩
theorem MS.set {M N : pmM} (h : MS M N) (S : Nat → Int32) : MS M (setM N S) := ⟨h.1, fun a j q => (setM_no (fun e => q (Or.inr (Or.inl e)))).trans (h.2 a j q)⟩
theorem MS.ly {M N : pmM} (h : MS M N) (mo : Nat → Nat) (b n : Nat) : MS M (lyU N mo b n) := ⟨h.1, fun a j q => (lyU_no (fun e => q (Or.inr (Or.inr (Or.inl e))))).trans (h.2 a j q)⟩
theorem MS.tri {M N : pmM} (h : MS M N) (mo : Nat → Nat) (n : Nat) : MS M (trM N mo n) := ⟨h.1, fun a j q => (if_neg (fun e => q (Or.inr (Or.inr (Or.inr e.1))))).trans (h.2 a j q)⟩
theorem MS.at {M N : pmM} (h : MS M N) {a j : Nat} (q : (65 ≤ a ∧ a ≤ 80) ∨ (a = 64 ∧ j ≠ 0)) : N.1 a j = M.1 a j := h.2 a j (by unfold msc; omega)
theorem MS.mr {M N : pmM} (h : MS M N) {f : Nat → Nat → Option Nat} (q : M.2.1 = f) : N.2.1 = f := by rw [h.1]; exact q
theorem MS.put {M N : pmM} (h : MS M N) (a j : Nat) (v : Int32) : MS (pm2 M.1 a j v, M.2) (pm2 N.1 a j v, N.2) := ⟨h.1, fun b k q => by
  show (if b = a ∧ k = j then v else N.1 b k) = if b = a ∧ k = j then v else M.1 b k
  rw [h.2 b k q]⟩
theorem MS.MO {M N : pmM} (h : MS M N) {oc : Nat} {rg mc : Nat → Nat} {lo hi mb : Nat → Nat → Nat} (q : MO M oc rg mc lo hi mb) : MO N oc rg mc lo hi mb := q.congr (h.at (Or.inr ⟨rfl, by decide⟩)) (fun a k h1 h2 => h.at (Or.inl ⟨h1, by omega⟩))
theorem sp1K_ne (lo hi : Nat → Nat → Nat) (o : Nat) (T : Nat → Int32) {j : Nat} (h : j ≠ o) : ∀ k, itF (sp1K lo hi o) T k j = T j
  | 0 => rfl
  | k + 1 => by rw [itF_s, sp1K, pk_un h]; exact sp1K_ne lo hi o T h k
theorem sp1K_eq (lo hi : Nat → Nat → Nat) (o : Nat) {T T' : Nat → Int32} (h : T o = T' o) : ∀ k, itF (sp1K lo hi o) T k o = itF (sp1K lo hi o) T' k o
  | 0 => h
  | k + 1 => by rw [itF_s, itF_s, sp1K, sp1K, pk_us, pk_us, sp1K_eq lo hi o h k]
theorem sp1_ag (rg : Nat → Nat) (lo hi : Nat → Nat → Nat) (ob more : Int32) (S S' : Nat → Int32) : ∀ n o, o < n → itF (sp1 rg lo hi ob more) S n o = itF (sp1 rg lo hi ob more) S' n o
  | 0, o, h => absurd h (Nat.not_lt_zero o)
  | n + 1, o, h => by
    rw [itF_s, itF_s, sp1, sp1]
    by_cases e : o = n
    · subst e
      exact sp1K_eq lo hi o (by rw [pk_us, pk_us]) _
    · rw [sp1K_ne _ _ _ _ e, sp1K_ne _ _ _ _ e, pk_un e, pk_un e]
      exact sp1_ag rg lo hi ob more S S' n o (by omega)
def AG (n : Nat) (S S' : Nat → Int32) : Prop := ∀ o, o < n → S o = S' o
theorem spO_ag {oc : Nat} {mc : Nat → Nat} {mb : Nat → Nat → Nat} {o : Nat} (hb : ∀ k, k < mc o → mb o k < oc) (ho : o < oc) {S S' : Nat → Int32} (h : AG oc S S') : AG oc (spO mc mb o S) (spO mc mb o S') := by
  have H : ∀ k, k ≤ mc o → AG oc (itF (spK mb o) S k) (itF (spK mb o) S' k) := by
    intro k
    induction k with
    | zero => intro _; exact h
    | succ k ih =>
      intro hk q hq
      have ih := ih (by omega)
      rw [itF_s, itF_s, spK, spK]
      by_cases e : q = o
      · subst e; rw [pk_us, pk_us, ih q hq, ih _ (hb k (by omega))]
      · rw [pk_un e, pk_un e]; exact ih q hq
  exact H _ (Nat.le_refl _)
theorem spR_ag {oc : Nat} {mc : Nat → Nat} {mb : Nat → Nat → Nat} (hb : ∀ o k, o < oc → k < mc o → mb o k < oc) {S S' : Nat → Int32} (h : AG oc S S') (r : Nat) : AG oc (spR oc mc mb r S) (spR oc mc mb r S') := by
  have H : ∀ n, n ≤ oc → AG oc (itF (spO mc mb) S n) (itF (spO mc mb) S' n) := by
    intro n
    induction n with
    | zero => intro _; exact h
    | succ n ih => intro hn; rw [itF_s, itF_s]; exact spO_ag (fun k hk => hb n k (by omega) hk) (by omega) (ih (by omega))
  exact H _ (Nat.le_refl _)
theorem spS_ag {oc : Nat} {rg mc : Nat → Nat} {lo hi mb : Nat → Nat → Nat} (hb : ∀ o k, o < oc → k < mc o → mb o k < oc) (ob more : Int32) (S S' : Nat → Int32) : AG oc (spS oc rg mc lo hi mb ob more S) (spS oc rg mc lo hi mb ob more S') := by
  have H : ∀ n, AG oc (itF (spR oc mc mb) (itF (sp1 rg lo hi ob more) S oc) n) (itF (spR oc mc mb) (itF (sp1 rg lo hi ob more) S' oc) n) := by
    intro n
    induction n with
    | zero => exact fun o ho => sp1_ag rg lo hi ob more S S' oc o ho
    | succ n ih => rw [itF_s, itF_s]; exact spR_ag hb ih n
  exact H 8
/-- the values of the objects, by the model; ob has more of them -/
def ScF (oc : Nat) (rg mc : Nat → Nat) (lo hi mb : Nat → Nat → Nat) (ob more : Int32) : Nat → Int32 := spS oc rg mc lo hi mb ob more (fun _ => nI 0)
def stC (S : Nat → Int32) (x : Int32) : Int32 := if x = -1 then -1 else S (ixN x)
/-- a book, from the memory before -/
def bkC (M : pmM) (S : Nat → Int32) (mo : Nat → Nat) (n x : Nat) : Nat := if x = 96 then ifN (acB M mo) n else ifN (fun p => onM M (mo p) && hasb (stC S (M.1 74 (3 * mo p + x / 32))) (x % 32)) n
theorem bkC_lt (M : pmM) (S : Nat → Int32) (mo : Nat → Nat) {n : Nat} (h : n ≤ 8) (x : Nat) : bkC M S mo n x < 256 := by
  unfold bkC
  split
  · exact ifN_256 _ h
  · exact ifN_256 _ h
theorem stv_C {N : pmM} {oc : Nat} {S : Nat → Int32} {x : Int32} (h : ∀ o, o < oc → N.1 81 o = S o) (h8 : oc ≤ 8) (hx : obOk oc x) : stv N x = stC S x := by
  unfold stv stC
  rcases hx with rfl | ⟨o, ho, rfl⟩
  · rw [if_pos rfl, if_pos rfl]
  · rw [if_neg (nI_m1 (by omega)), if_neg (nI_m1 (by omega)), ixN_nI (by omega), h o ho]
theorem onM_at {M N : pmM} (h : MS M N) (s : Nat) : onM N s = onM M s := by unfold onM; rw [h.at (Or.inl (by decide)), h.at (Or.inr ⟨rfl, by decide⟩)]
theorem bkN_C {M N : pmM} {oc n x : Nat} {S : Nat → Int32} {mo : Nat → Nat} (h : MS M N) (hS : ∀ o, o < oc → N.1 81 o = S o) (h8 : oc ≤ 8) (hf : ∀ p f, p < n → f < 3 → obOk oc (M.1 74 (3 * mo p + f))) (hx : x < 97) : bkN N mo n x = bkC M S mo n x := by
  unfold bkN bkC
  by_cases e : x = 96
  · rw [if_pos e, if_pos e]
    exact ifN_congr n (fun p hp => by unfold acB; rw [onM_at h, h.at (Or.inl (by decide))])
  · rw [if_neg e, if_neg e]
    refine ifN_congr n (fun p hp => ?_)
    unfold slB
    rw [onM_at h, h.at (Or.inl (by decide)), stv_C hS h8 (hf p _ hp (by omega))]
def bk2 (f g : Nat → Nat) (k : Nat) : Nat := if k < 97 then f k else g (k - 97)
def OBF (M : pmM) (mo : Nat → Nat) (rc oc : Nat) : Prop := ∀ p f, p < rc → f < 3 → obOk oc (M.1 74 (3 * mo p + f))
theorem obOk.fOk {oc : Nat} {x : Int32} (h : obOk oc x) (h8 : oc ≤ 8) : fOk x := h.elim Or.inl (fun ⟨o, h1, h2⟩ => Or.inr ⟨o, by omega, h2⟩)
section MLAYS
variable {l : Launch} {M N : pmM} {od : Nat → Nat} {oc rc : Nat} {rg mc : Nat → Nat} {lo hi mb : Nat → Nat → Nat} {mo : Nat → Nat}
theorem m_spreads2 (hf : l.stackTraces = false) (hN : MS M N) (hmr : M.2.1 = mrC od) (hO : MO M oc rg mc lo hi mb) (ob more : Int32) :
    ∃ N', MS M N' ∧ N'.1 64 0 = N.1 64 0 ∧ (∀ o, o < oc → N'.1 81 o = ScF oc rg mc lo hi mb ob more o) ∧ (∀ a k, a ≠ 81 → N'.1 a k = N.1 a k) ∧ Sp l kX4_spreads 86 1 0 0 [.ref 64, .int ob, .int more] N (.inl none) N' :=
  ⟨_, hN.set _, setM_no (by decide), fun o ho => setM_81.trans (spS_ag (fun o k h1 h2 => (hO.2.2.2.2.2 o k h1 h2).2) ob more _ _ o ho), fun a k h => setM_no h, m_spreads hf (hN.mr hmr) (hN.MO hO)⟩
theorem m_lays2 (hf : l.stackTraces = false) (hN : MS M N) (hmr : M.2.1 = mrC od) {S : Nat → Int32} {ln n b : Nat} (hps : psh ln = (5, 8)) (hlt : ln < 86) (hne : ln ≠ 82) (hn8 : n ≤ 8) (hb1 : b ≤ 1) (hln : ∀ p, p < n → N.1 ln p = nI (mo p) ∧ mo p < 8) (h8 : oc ≤ 8) (hS : ∀ o, o < oc → N.1 81 o = S o) (hfo : OBF M mo n oc) :
    ∃ N', MS M N' ∧ N'.1 64 0 = N.1 64 0 ∧ (∀ x, x < 97 → N'.1 82 (97 * b + x) = nI (bkC M S mo n x)) ∧ (∀ k, ¬ (97 * b ≤ k ∧ k < 97 * b + 97) → N'.1 82 k = N.1 82 k) ∧ (∀ a k, a ≠ 82 → N'.1 a k = N.1 a k) ∧ Sp l kX4_lays 86 1 0 0 [.ref 64, .int (nI b), .ref ln, .int (nI n)] N (.inl none) N' :=
  ⟨lyU N mo b n, hN.ly _ _ _, lyU_no (by decide), fun x hx => by rw [lyU_at hx, bkN_C hN hS h8 hfo hx], fun k hk => lyU_82 hk, fun a k h => lyU_no h, m_lays hf (hN.mr hmr) hps hlt hne hn8 hb1 hln (fun p f h1 h2 => by rw [hN.at (Or.inl (by decide))]; exact (hfo p f h1 h2).fOk h8)⟩
theorem m_laysNow2 (hf : l.stackTraces = false) (hN : MS M N) (hmr : M.2.1 = mrC od) (hO : MO M oc rg mc lo hi mb) (hmc : M.1 64 8 = nI rc) (h8 : rc ≤ 8) (hmo : ∀ p, p < rc → M.1 70 p = nI (mo p) ∧ mo p < 8) (hfo : OBF M mo rc oc) :
    ∃ N', MS M N' ∧ N'.1 64 0 = N.1 64 0 ∧ BKn 97 N' (bkC M (ScF oc rg mc lo hi mb (-1) (nI 0)) mo rc) ∧ (∀ o, o < oc → N'.1 81 o = ScF oc rg mc lo hi mb (-1) (nI 0) o) ∧ (∀ a k, a ≠ 81 → a ≠ 82 → N'.1 a k = N.1 a k) ∧ Sp l kX4_laysNow 86 2 0 0 [.ref 64] N (.inl (some (.int (nI 0)))) N' := by
  have hS : ∀ o, o < oc → (setM N (spS oc rg mc lo hi mb (-1) (nI 0) (N.1 81))).1 81 o = ScF oc rg mc lo hi mb (-1) (nI 0) o := fun o ho => setM_81.trans (spS_ag (fun o k h1 h2 => (hO.2.2.2.2.2 o k h1 h2).2) _ _ _ _ o ho)
  refine ⟨lnM N mo rc _, (hN.set _).ly _ _ _, (lyU_no (by decide)).trans (setM_no (by decide)), fun k hk => ⟨?_, bkC_lt _ _ _ h8 _⟩, fun o ho => (lyU_no (by decide)).trans (hS o ho), fun a k h1 h2 => (lyU_no h2).trans (setM_no h1), m_laysNow hf (hN.mr hmr) (hN.MO hO) ((hN.at (Or.inr ⟨rfl, by decide⟩)).trans hmc) h8 (fun p hp => by rw [hN.at (Or.inl (by decide))]; exact hmo p hp) (fun p f h1 h2 => by rw [hN.at (Or.inl (by decide))]; exact (hfo p f h1 h2).fOk hO.1)⟩
  have e := lyU_at (M := setM N (spS oc rg mc lo hi mb (-1) (nI 0) (N.1 81))) (mo := mo) (b := 0) (n := rc) hk
  rw [Nat.mul_zero, Nat.zero_add] at e
  exact e.trans (congrArg nI (bkN_C (hN.set _) hS hO.1 hfo hk))
theorem bk2_of {N N' : pmM} {f g : Nat → Nat} (h1 : BKn 97 N f) (h2 : ∀ x, x < 97 → N'.1 82 (97 * 1 + x) = nI (g x)) (h3 : ∀ x, g x < 256) (h4 : ∀ k, ¬ (97 * 1 ≤ k ∧ k < 97 * 1 + 97) → N'.1 82 k = N.1 82 k) : BKn 194 N' (bk2 f g) := fun k hk => by
  unfold bk2
  by_cases e : k < 97
  · rw [if_pos e, h4 k (by omega)]; exact h1 k e
  · rw [if_neg e]
    have := h2 (k - 97) (by omega)
    rw [show 97 * 1 + (k - 97) = k by omega] at this
    exact ⟨this, h3 _⟩
end MLAYS

theorem m_byMove {l : Launch} (hf : l.stackTraces = false) {M N : pmM} {od : Nat → Nat} {oc rc : Nat} {rg mc : Nat → Nat} {lo hi mb : Nat → Nat → Nat} {mo : Nat → Nat} (hN : MS M N) (hmr : M.2.1 = mrC od) (hO : MO M oc rg mc lo hi mb) (hmc : M.1 64 8 = nI rc) (h8 : rc ≤ 8) (hmo : ∀ p, p < rc → M.1 70 p = nI (mo p) ∧ mo p < 8) (hfo : OBF M mo rc oc) {fr to : Nat} (h1 : fr < rc) (h2 : to < rc) :
    ∃ N', MS M N' ∧ N'.1 64 0 = N.1 64 0 ∧ (∀ k, k < rc → N'.1 83 k = nI (shO mo fr to k)) ∧ Sp l kX4_byMove 86 3 0 0 [.ref 64, .int (nI fr), .int (nI to)] N (.inl (some (.int (nI (cntN (ulB (bk2 (bkC M (ScF oc rg mc lo hi mb (-1) (nI 0)) mo rc) (bkC M (ScF oc rg mc lo hi mb (-1) (nI 0)) (shO mo fr to) rc))) 32768))))) N' := by
  have hsh : ∀ k, k < rc → ∃ q, q < rc ∧ shO mo fr to k = mo q := fun k hk => by
    unfold shO
    repeat' split
    · exact ⟨fr, h1, rfl⟩
    · exact ⟨k + 1, by omega, rfl⟩
    · exact ⟨k - 1, by omega, rfl⟩
    · exact ⟨k, hk, rfl⟩
  have hT := hN.tri (shO mo fr to) rc
  obtain ⟨N1, a1, a2, a3, a4, a5, a6⟩ := m_laysNow2 hf hT hmr hO hmc h8 hmo hfo
  have b0 : ∀ k, k < rc → N1.1 83 k = nI (shO mo fr to k) := fun k hk => (a5 83 k (by decide) (by decide)).trans (if_pos ⟨rfl, hk⟩)
  obtain ⟨N2, b1, b2, b3, b4, b5, b6⟩ := m_lays2 (mo := shO mo fr to) (n := rc) (b := 1) (ln := 83) (S := ScF oc rg mc lo hi mb (-1) (nI 0)) hf a1 hmr ps_83 (by decide) (by decide) h8 (by decide) (fun p hp => ⟨b0 p hp, by obtain ⟨q, g1, g2⟩ := hsh p hp; rw [g2]; exact (hmo q g1).2⟩) hO.1 a4 (fun p f g1 g2 => by obtain ⟨q, g3, g4⟩ := hsh p g1; rw [g4]; exact hfo q f g3 g2)
  refine ⟨N2, b1, b2.trans (a2.trans rfl), fun k hk => (b5 83 k (by decide)).trans (b0 k hk), ?_⟩
  have hbk := bk2_of a3 b3 (bkC_lt _ _ _ h8) b4
  have hn := hN.mr hmr
  refine sp_of hf (by decide +kernel) (Nat.le_of_ble_eq_true rfl) (by intro v hv; simp at hv; rcases hv with rfl | rfl | rfl <;> rfl) rfl ?_
  generalize hX : (nI (cntN (ulB (bk2 (bkC M (ScF oc rg mc lo hi mb (-1) (nI 0)) mo rc) (bkC M (ScF oc rg mc lo hi mb (-1) (nI 0)) (shO mo fr to) rc))) 32768)) = X
  refine e_mem (M1 := trM N (shO mo fr to) 0) (pm_ext fun a k => (if_neg (by omega)).symm) ?_
  refine e_iconst (v := nI 0) dX4_byMove_0 rfl ic_0 ?_
  refine e_istore_3 dX4_byMove_1 rfl (Nat.le_of_ble_eq_true rfl) rfl ?_
  refine e_iconst (v := nI 0) dX4_byMove_2 rfl ic_0 ?_
  refine e_istore_4 dX4_byMove_3 rfl (Nat.le_of_ble_eq_true rfl) rfl ?_
  refine e_loc (lo1 := [some (.ref 64), some (.int (nI fr)), some (.int (nI to)), some (.int (nI (if (0 : Nat) ≤ to then (if (0 : Nat) ≤ fr then (0 : Nat) else (0 : Nat) + 1) else (if (0 : Nat) - 1 < fr then (0 : Nat) - 1 else if (0 : Nat) - 1 = fr then (if to = fr then fr + 1 else fr) else (0 : Nat))))), some (.int (nI 0))]) (by rw [if_pos (Nat.zero_le to), if_pos (Nat.zero_le fr)]; rfl) ?_
  refine loop_up (P := fun p => Ev l kX4_byMove (gM 86 0 0 (.inl (some (.int X))) N2) (rmd 3 0 0) 86 0 0 5 [some (.ref 64), some (.int (nI fr)), some (.int (nI to)), some (.int (nI (if p ≤ to then (if p ≤ fr then p else p + 1) else (if p - 1 < fr then p - 1 else if p - 1 = fr then (if to = fr then fr + 1 else fr) else p)))), some (.int (nI p))] [] (trM N (shO mo fr to) p)) ?_ (fun p hp ih => ?_) 0 (Nat.zero_le rc)
  · refine e_iload_4 dX4_byMove_5 rfl ?_
    refine e_aload_0 dX4_byMove_7 rfl ?_
    refine e_getI dX4_byMove_8 rfl lkX4_79 rfl ps_64 (by decide) (by decide) ?_
    refine e_topi (nI rc) ((hN.at (Or.inr ⟨rfl, by decide⟩)).trans hmc) ?_
    refine e_nc_ge_t (tgt := 71) dX4_byMove_11 (by decide) (by omega) (by omega) (Nat.le_refl _) ?_
    refine e_aload_0 dX4_byMove_71 rfl ?_
    refine e_callV dX4_byMove_72 rfl csX4_130 a6 rfl rfl ps_64 (by decide) (by decide) ⟨Nat.le_of_ble_eq_true rfl, Nat.le_of_ble_eq_true rfl⟩ ⟨Nat.le_of_ble_eq_true rfl, Nat.le_of_ble_eq_true rfl⟩ rfl rfl (Nat.le_of_ble_eq_true rfl) ?_
    refine e_pop dX4_byMove_75 rfl rfl ?_
    refine e_aload_0 dX4_byMove_76 rfl ?_
    refine e_iconst (v := nI 1) dX4_byMove_77 rfl ic_1 ?_
    refine e_aload_0 dX4_byMove_78 rfl ?_
    refine e_getR dX4_byMove_79 rfl lkX4_65 rfl ps_64 (by decide) (by decide) (mr_of (a1.mr hmr) rfl) ?_
    refine e_aload_0 dX4_byMove_82 rfl ?_
    refine e_getI dX4_byMove_83 rfl lkX4_79 rfl ps_64 (by decide) (by decide) ?_
    refine e_topi (nI rc) ((a1.at (Or.inr ⟨rfl, by decide⟩)).trans hmc) ?_
    refine e_callV dX4_byMove_86 rfl csX4_119 b6 rfl rfl ps_64 (by decide) (by decide) ⟨Nat.le_of_ble_eq_true rfl, Nat.le_of_ble_eq_true rfl⟩ ⟨Nat.le_of_ble_eq_true rfl, Nat.le_of_ble_eq_true rfl⟩ rfl rfl (Nat.le_of_ble_eq_true rfl) ?_
    refine e_aload_0 dX4_byMove_89 rfl ?_
    refine e_callV dX4_byMove_90 rfl csX4_134 (m_unlike hf (b1.mr hmr) hbk) rfl rfl ps_64 (by decide) (by decide) ⟨Nat.le_of_ble_eq_true rfl, Nat.le_of_ble_eq_true rfl⟩ ⟨Nat.le_of_ble_eq_true rfl, Nat.le_of_ble_eq_true rfl⟩ rfl rfl (Nat.le_of_ble_eq_true rfl) ?_
    exact e_iret dX4_byMove_93 rfl rfl (Nat.le_of_ble_eq_true rfl) (Nat.le_of_ble_eq_true rfl) hX rfl
  · obtain ⟨v, hv⟩ : ∃ v, v = (if p ≤ to then (if p ≤ fr then p else p + 1) else (if p - 1 < fr then p - 1 else if p - 1 = fr then (if to = fr then fr + 1 else fr) else p)) := ⟨_, rfl⟩
    rw [← hv]
    refine e_iload_4 dX4_byMove_5 rfl ?_
    refine e_aload_0 dX4_byMove_7 rfl ?_
    refine e_getI dX4_byMove_8 rfl lkX4_79 rfl ps_64 (by decide) (by decide) ?_
    refine e_topi (nI rc) ((hN.at (Or.inr ⟨rfl, by decide⟩)).trans hmc) ?_
    refine e_nc_ge_f dX4_byMove_11 rfl ⟨71, by decide⟩ (by omega) (by omega) hp ?_
    obtain ⟨v2, hv2⟩ : ∃ v2, v2 = (if v = fr then v + 1 else v + 0) := ⟨_, rfl⟩
    have H : Ev l kX4_byMove (gM 86 0 0 (.inl (some (.int X))) N2) (rmd 3 0 0) 86 0 0 27 [some (.ref 64), some (.int (nI fr)), some (.int (nI to)), some (.int (nI v2)), some (.int (nI p))] [] (trM N (shO mo fr to) p) := by
      by_cases hto : p = to
      · refine e_iload_4 dX4_byMove_27 rfl ?_
        refine e_iload_2 dX4_byMove_29 rfl ?_
        refine e_nc_ne_f dX4_byMove_30 rfl ⟨49, by decide⟩ (by omega) (by omega) hto ?_
        refine e_aload_0 dX4_byMove_33 rfl ?_
        refine e_getR dX4_byMove_34 rfl lkX4_65 rfl ps_64 (by decide) (by decide) (mr_of hn rfl) ?_
        refine e_iload_4 dX4_byMove_37 rfl ?_
        refine e_aload_0 dX4_byMove_39 rfl ?_
        refine e_getR dX4_byMove_40 rfl lkX4_25 rfl ps_64 (by decide) (by decide) (mr_of hn rfl) ?_
        refine e_iload_1 dX4_byMove_43 rfl ?_
        refine e_iald dX4_byMove_44 rfl ps_70 (by decide) rfl (by omega) ?_
        refine e_topi (nI (mo fr)) ((hN.at (Or.inl (by decide))).trans (hmo fr h1).1) ?_
        refine e_iast dX4_byMove_45 rfl ps_83 (by decide) rfl (by omega) ?_
        refine e_goto (tgt := 65) dX4_byMove_46 (by decide) ?_
        refine e_iinc_4 (v := nI (p + 1)) dX4_byMove_65 rfl (Nat.le_of_ble_eq_true rfl) rfl (nI_1 p) ?_
        refine e_goto (tgt := 5) dX4_byMove_68 (by decide) ?_
        rw [show (if p + 1 ≤ to then (if p + 1 ≤ fr then p + 1 else p + 1 + 1) else (if p + 1 - 1 < fr then p + 1 - 1 else if p + 1 - 1 = fr then (if to = fr then fr + 1 else fr) else p + 1)) = v2 by rw [hv2, hv]; (repeat' split) <;> omega] at ih
        exact e_mem (trM_s (by unfold shO; rw [if_pos hto])) ih
      · have hvr : v2 < rc := by rw [hv2, hv]; (repeat' split) <;> omega
        have hsv : shO mo fr to p = mo v2 := by
          unfold shO
          rw [if_neg hto]
          repeat' split
          · exact congrArg mo (by rw [hv2, hv]; (repeat' split) <;> omega)
          · exact congrArg mo (by rw [hv2, hv]; (repeat' split) <;> omega)
          · exact congrArg mo (by rw [hv2, hv]; (repeat' split) <;> omega)
        refine e_iload_4 dX4_byMove_27 rfl ?_
        refine e_iload_2 dX4_byMove_29 rfl ?_
        refine e_nc_ne_t (tgt := 49) dX4_byMove_30 (by decide) (by omega) (by omega) hto ?_
        refine e_aload_0 dX4_byMove_49 rfl ?_
        refine e_getR dX4_byMove_50 rfl lkX4_65 rfl ps_64 (by decide) (by decide) (mr_of hn rfl) ?_
        refine e_iload_4 dX4_byMove_53 rfl ?_
        refine e_aload_0 dX4_byMove_55 rfl ?_
        refine e_getR dX4_byMove_56 rfl lkX4_25 rfl ps_64 (by decide) (by decide) (mr_of hn rfl) ?_
        refine e_iload_3 dX4_byMove_59 rfl ?_
        refine e_iald dX4_byMove_60 rfl ps_70 (by decide) rfl (by omega) ?_
        refine e_topi (nI (mo v2)) ((hN.at (Or.inl (by decide))).trans (hmo v2 hvr).1) ?_
        refine e_iast dX4_byMove_61 rfl ps_83 (by decide) rfl (by omega) ?_
        refine e_iinc_3 (v := nI (v2 + 1)) dX4_byMove_62 rfl (Nat.le_of_ble_eq_true rfl) rfl (nI_1 v2) ?_
        refine e_iinc_4 (v := nI (p + 1)) dX4_byMove_65 rfl (Nat.le_of_ble_eq_true rfl) rfl (nI_1 p) ?_
        refine e_goto (tgt := 5) dX4_byMove_68 (by decide) ?_
        rw [show (if p + 1 ≤ to then (if p + 1 ≤ fr then p + 1 else p + 1 + 1) else (if p + 1 - 1 < fr then p + 1 - 1 else if p + 1 - 1 = fr then (if to = fr then fr + 1 else fr) else p + 1)) = v2 + 1 by rw [hv2, hv]; (repeat' split) <;> omega] at ih
        exact e_mem (trM_s (by rw [hsv])) ih
    have hvb : v < 2 ^ 31 := by rw [hv]; (repeat' split) <;> omega
    by_cases hfr : v = fr
    · rw [if_pos hfr] at hv2
      rw [hv2] at H
      refine e_iload_3 dX4_byMove_14 rfl ?_
      refine e_iload_3 dX4_byMove_15 rfl ?_
      refine e_iload_1 dX4_byMove_16 rfl ?_
      refine e_nc_ne_f dX4_byMove_17 rfl ⟨24, by decide⟩ (by omega) (by omega) hfr ?_
      refine e_iconst (v := nI 1) dX4_byMove_20 rfl ic_1 ?_
      refine e_goto (tgt := 25) dX4_byMove_21 (by decide) ?_
      refine e_iadd dX4_byMove_25 rfl ?_
      refine e_topi (nI (v + 1)) (nI_add _ _) ?_
      refine e_istore_3 dX4_byMove_26 rfl (Nat.le_of_ble_eq_true rfl) rfl ?_
      exact H
    · rw [if_neg hfr] at hv2
      rw [hv2] at H
      refine e_iload_3 dX4_byMove_14 rfl ?_
      refine e_iload_3 dX4_byMove_15 rfl ?_
      refine e_iload_1 dX4_byMove_16 rfl ?_
      refine e_nc_ne_t (tgt := 24) dX4_byMove_17 (by decide) (by omega) (by omega) hfr ?_
      refine e_iconst (v := nI 0) dX4_byMove_24 rfl ic_0 ?_
      refine e_iadd dX4_byMove_25 rfl ?_
      refine e_topi (nI (v + 0)) (nI_add _ _) ?_
      refine e_istore_3 dX4_byMove_26 rfl (Nat.le_of_ble_eq_true rfl) rfl ?_
      exact H
