/-! ===== pairs that change: members ===== -/
theorem cnt_none : ∀ n, cntN (fun _ => false) n = 0
  | 0 => rfl
  | n + 1 => by rw [cntN, if_neg (by decide)]; exact cnt_none n
theorem cnt_ins {b b' : Nat → Bool} {a : Nat} (h0 : b a = false) (h1 : b' a = true) : ∀ n, a < n → (∀ i, i < n → i ≠ a → b' i = b i) → cntN b' n = cntN b n + 1
  | 0, ha, _ => absurd ha (Nat.not_lt_zero a)
  | n + 1, ha, h => by
    by_cases e : a = n
    · subst e
      rw [cntN, cntN, if_pos h1, h0, if_neg (by decide), cntN_congr a (fun i hi => h i (by omega) (by omega))]
    · have ih := cnt_ins h0 h1 n (by omega) (fun i hi hn => h i (by omega) hn)
      rw [cntN, cntN, h n (by omega) (by omega), ih]
      split <;> rfl
theorem cnt_mem {x : Int32} {c : Nat} {f : Nat → Nat} (hc : c ≤ 2) (hf : ∀ k, k < c → f k < 32) (hd : c = 2 → f 0 ≠ f 1) (h : ∀ i, i < 32 → (hasb x i = true ↔ ∃ k, k < c ∧ f k = i)) : bcE x = nI c := by
  rw [bcE_cnt]
  congr 1
  have hx : ∀ i, i < 32 → hasb x i = decide (∃ k, k < c ∧ f k = i) := fun i hi => by
    rw [Bool.eq_iff_iff, decide_eq_true_iff]; exact h i hi
  match c, hc, hf, hd, hx with
  | 0, _, _, _, hx =>
    rw [cntN_congr 32 (fun i hi => (hx i hi).trans (decide_eq_false (fun ⟨k, hk, _⟩ => absurd hk (Nat.not_lt_zero k))))]
    exact cnt_none 32
  | 1, _, hf, _, hx =>
    rw [cnt_ins (b := fun _ => false) (a := f 0) rfl ((hx _ (hf 0 (by decide))).trans (decide_eq_true ⟨0, by decide, rfl⟩)) 32 (hf 0 (by decide)) (fun i hi hn => (hx i hi).trans (decide_eq_false (fun ⟨k, hk, e⟩ => hn (by rw [← e, show k = 0 by omega])))), cnt_none]
  | 2, _, hf, hd, hx =>
    rw [cnt_ins (b := fun i => decide (i = f 0)) (a := f 1) (decide_eq_false (fun z => hd rfl z.symm)) ((hx _ (hf 1 (by decide))).trans (decide_eq_true ⟨1, by decide, rfl⟩)) 32 (hf 1 (by decide)) (fun i hi hn => by
      rw [hx i hi, Bool.eq_iff_iff, decide_eq_true_iff, decide_eq_true_iff]
      constructor
      · rintro ⟨k, hk, e⟩
        have : k = 0 ∨ k = 1 := by omega
        rcases this with rfl | rfl
        · exact e.symm
        · exact absurd e.symm hn
      · intro e; exact ⟨0, by decide, e.symm⟩), cnt_ins (b := fun _ => false) (a := f 0) rfl (decide_eq_true rfl) 32 (hf 0 (by decide)) (fun i hi hn => decide_eq_false hn), cnt_none]
theorem sh_one {o q : Nat} (ho : o < 32) (hq : q < 32) : hasb (nI 1 <<< (nI o &&& 31)) q = decide (q = o) := (show ∀ o, o < 32 → ∀ q, q < 32 → hasb (nI 1 <<< (nI o &&& 31)) q = decide (q = o) by decide +kernel) o ho q hq
theorem nd_dp {M : pmM} {od mo : Nat → Nat} {oc rc td g : Nat} {rg mc : Nat → Nat} {lo hi mb : Nat → Nat → Nat} (h : REL M od mo oc rc td g rg mc lo hi mb) {o m : Nat} (ho : o < oc) (hm : m < oc) (hne : o ≠ m) : ndF M 8 m o = hasb (dpS oc mc mb o) m := by
  obtain ⟨t1, t2, t3, t4⟩ := h.ot
  rw [Bool.eq_iff_iff, nd_iff t2 t1 t3 ho 7 m hm, dp_iff t2 t1 hm ho]
  constructor
  · rintro ⟨k, hk, r⟩
    exact rch_7 t2 t1 ho 8 m hm ((rch_s 7 m o).mpr (Or.inr ⟨k, hk, r⟩))
  · intro r
    rcases (rch_s 6 m o).mp r with e | ⟨k, hk, r⟩
    · exact absurd e.symm hne
    · exact ⟨k, hk, rch_mono 6 _ _ r⟩
theorem mb_bc {M : pmM} {oc : Nat} {rg mc : Nat → Nat} {lo hi mb : Nat → Nat → Nat} (ro : RO M oc rg mc lo hi mb) (h8 : oc ≤ 8) {o : Nat} (ho : o < oc) : bcE (M.1 (15 + 2 * o) 2) = nI (mc o) := by
  obtain ⟨r1, r2, r3, r4, r5⟩ := ro
  exact cnt_mem (r1 o (by omega)).2.2.2.2.1 (fun k hk => by have := (r3 o k ho hk).2; omega) (r4 o ho) (r5 o (by omega))
/-- objects whose members alone change -/
theorem REL.om {M N : pmM} {x : Int32} {od mo : Nat → Nat} {oc rc td g : Nat} {rg mc : Nat → Nat} {lo hi mb mb' : Nat → Nat → Nat} {o c' : Nat} (h : REL M od mo oc rc td g rg mc lo hi mb) (ho : o < oc) (hc' : c' ≤ 2) (eN : ∀ a k, a < 64 → N.1 a k = (umM (amM M o x) od rg rc).1 a k) (eR : N.2.1 = M.2.1) (eM : ∀ a k, (a = 64 ∧ k ≠ 0) ∨ (65 ≤ a ∧ a ≤ 67) ∨ (70 ≤ a ∧ a ≤ 80) → N.1 a k = M.1 a k) (e68 : ∀ q, N.1 68 q = if q = o then nI c' else M.1 68 q) (e69 : ∀ q k, q < oc → k < rgS mc o c' q → N.1 69 (2 * q + k) = nI (mb' q k) ∧ mb' q k < oc) (hb : ∀ q k, q ≠ o → mb' q k = mb q k) (hd : c' = 2 → mb' o 0 ≠ mb' o 1) (hx : ∀ i, i < 32 → (hasb x i = true ↔ ∃ k, k < c' ∧ mb' o k = i)) : REL N od mo oc rc td g rg (rgS mc o c') lo hi mb' := by
  obtain ⟨⟨a1, a2, a3, a4, a5, a6, a7, a8, a9, a10, a11, a12, a13, a14⟩, ⟨r1, r2, r3, r4, r5⟩, hB⟩ := id h
  have f2 : ∀ c k, (c ≠ 15 + 2 * o ∨ k ≠ 2) → (amM M o x).1 c k = M.1 c k := fun c k q2 => by
    show (if c = 15 + 2 * o ∧ k = 2 then _ else M.1 c k) = _
    rw [if_neg (by omega)]
  have g4 : ∀ c k, c < 33 → (c ≠ 15 + 2 * o ∨ k ≠ 2) → N.1 c k = M.1 c k := fun c k q1 q2 => (eN c k (by omega)).trans ((umM_no _ (Or.inr q1)).trans (f2 c k q2))
  have f15 : N.1 (15 + 2 * o) 2 = x := (eN _ _ (by omega)).trans ((umM_no _ (Or.inr (by omega))).trans pm2_e)
  refine h.ob (fun c k q1 q2 => f2 c k (by omega)) eN eR (fun c k q => eM c k (by omega)) ⟨fun q hq => ?_, fun q k hq hk => ?_, e69, fun q hq h2 => ?_, fun q hq i hi => ?_⟩
  · obtain ⟨t1, t2, t3, t4, t5, t6⟩ := r1 q hq
    rw [g4 (15 + 2 * q) _ (by omega) (by omega), eM 65 _ (by omega), e68]
    by_cases e : q = o
    · subst e
      rw [rgS, if_pos rfl, if_pos rfl]
      exact ⟨t1, t2, t3, rfl, hc', fun z => absurd z (by omega)⟩
    · rw [rgS, if_neg e, if_neg e]
      exact ⟨t1, t2, t3, t4, t5, t6⟩
  · rw [eM 66 _ (by omega), eM 67 _ (by omega), g4 (16 + 2 * q) _ (by have := h.1.2.2.2.1; omega) (by omega)]; exact r2 q k hq hk
  · by_cases e : q = o
    · subst e; rw [rgS, if_pos rfl] at h2; exact hd h2
    · rw [rgS, if_neg e] at h2; rw [hb q 0 e, hb q 1 e]; exact r4 q hq h2
  · by_cases e : q = o
    · subst e; rw [f15, rgS, if_pos rfl]; exact hx i hi
    · rw [rgS, if_neg e, g4 (15 + 2 * q) _ (by omega) (by omega), r5 q hq i hi]
      constructor
      · rintro ⟨k, k1, k2⟩; exact ⟨k, k1, by rw [hb q k e]; exact k2⟩
      · rintro ⟨k, k1, k2⟩; exact ⟨k, k1, by rw [← hb q k e]; exact k2⟩

theorem p_addMember {l : Launch} (hf : l.stackTraces = false) {M : pmM} (h : RLX M) (x y : Int32) : PR l kL_addMember kX4_addMember 13 2 3 [.ref 0, .int x, .int y, .ref 84] [.ref 64, .int x, .int y] M := by
  obtain ⟨od, mo, oc, rc, td, g, rg, mc, lo, hi, mb, h⟩ := h
  obtain ⟨⟨a1, a2, a3, a4, a5, a6, a7, a8, a9, a10, a11, a12, a13, a14⟩, ro, ⟨b1, b2, b3, b4, b5⟩⟩ := id h
  by_cases hx : vp_in x oc
  · obtain ⟨o, ho, rfl⟩ := vp_in_of hx (by omega)
    by_cases hy : vp_in y oc
    · obtain ⟨m, hm, rfl⟩ := vp_in_of hy (by omega)
      obtain ⟨r1, r2, r3, r4, r5⟩ := id ro
      by_cases hne : o = m
      · subst hne
        exact ⟨2, _, _, _, by decide, w_addMember_x2 hf (s_addMember_no3 hf a1 a7 a4 ho), fun z => absurd z (by decide), m_addMember_no3 hf a1 h.toM ho, rfl, _, _, _, _, _, _, _, _, _, _, _, h.ms (((MS.rf _).cd 0).cd 2)⟩
      · rcases first_b (fun k => decide (mb o k = m)) (mc o) with ⟨k, hk, hxk, hnk⟩ | hnm
        · have hxk := of_decide_eq_true hxk
          exact ⟨2, _, _, _, by decide, w_addMember_x2 hf (s_addMember_no4 hf a1 a7 a4 ho hm hne ((r5 o (by omega) m (by omega)).mpr ⟨k, hk, hxk⟩)), fun z => absurd z (by decide), m_addMember_no4 hf a1 h.toM ho hm hne hk hxk (fun j hj => of_decide_eq_false (hnk j hj)), rfl, _, _, _, _, _, _, _, _, _, _, _, h.ms (((MS.rf _).cd 0).cd 2)⟩
        · have hnm : ∀ j, j < mc o → mb o j ≠ m := fun j hj => of_decide_eq_false (hnm j hj)
          have hnc : hasb (M.1 (15 + 2 * o) 2) m = false := by
            rw [Bool.eq_false_iff]
            intro z
            obtain ⟨k, k1, k2⟩ := (r5 o (by omega) m (by omega)).mp z
            exact hnm k k1 k2
          have hnd := nd_dp h ho hm hne
          cases hdp : hasb (dpS oc mc mb o) m with
          | true => exact ⟨3, _, _, _, by decide, w_addMember_x3 hf (s_addMember_no5 hf a1 a7 a4 ho hm hne hnc (hnd.trans hdp)), fun z => absurd z (by decide), m_addMember_no5 hf a1 h.toM ho hm hne hnm hdp, rfl, _, _, _, _, _, _, _, _, _, _, _, h.ms (((MS.rf _).cd 0).cd 3)⟩
          | false =>
            by_cases hlt : mc o < 2
            · have hX : ∀ i, i < 32 → (hasb (M.1 (15 + 2 * o) 2 ||| (nI 1 <<< (nI m &&& 31))) i = true ↔ ∃ k, k < mc o + 1 ∧ (if k = mc o then m else mb o k) = i) := fun i hi => by
                rw [hasb_or, Bool.or_eq_true, sh_one (by omega) hi, decide_eq_true_iff, r5 o (by omega) i hi]
                constructor
                · rintro (⟨k, k1, k2⟩ | e)
                  · exact ⟨k, by omega, by rw [if_neg (by omega)]; exact k2⟩
                  · exact ⟨mc o, by omega, by rw [if_pos rfl]; exact e.symm⟩
                · rintro ⟨k, k1, k2⟩
                  by_cases e : k = mc o
                  · rw [if_pos e] at k2; exact Or.inr k2.symm
                  · rw [if_neg e] at k2; exact Or.inl ⟨k, by omega, k2⟩
              have hbx : bcE (M.1 (15 + 2 * o) 2 ||| (nI 1 <<< (nI m &&& 31))) = nI (mc o + 1) := cnt_mem (f := fun k => if k = mc o then m else mb o k) (by omega) (fun k hk => by
                show (if k = mc o then m else mb o k) < 32
                split
                · omega
                · have := (r3 o k ho (by omega)).2; omega) (fun z => by
                show (if 0 = mc o then m else mb o 0) ≠ (if 1 = mc o then m else mb o 1)
                rw [if_neg (by omega), if_pos (by omega)]
                exact hnm 0 (by omega)) hX
              have w := w_addMember_ok hf (s_addMember_ok hf a1 a2 ro.hrg a8 a5 h.hfo a7 a4 ho hm hne hnc (hnd.trans hdp) (mb_bc ro a4 ho) (by omega) hlt)
              rw [hbx] at w
              generalize hXX : (M.1 (15 + 2 * o) 2 ||| (nI 1 <<< (nI m &&& 31))) = X at w hX
              have mm := m_addMember_ok (M := (ouM (umM (amM M o X) od rg rc) (nI (mc o + 1)).toInt64)) hf a1 (h.toM.congr (show (umM (amM M o X) od rg rc).1 64 2 = M.1 64 2 from (umM_hi _ a2 a5 (by omega)).trans (pm2_n (by omega))) (fun c k h1 h2 => show (umM (amM M o X) od rg rc).1 c k = M.1 c k from (umM_hi _ a2 a5 (by omega)).trans (pm2_n (by omega)))) ho hm hne hnm hdp hlt
              refine ⟨0, _, nI (mc o + 1), _, by decide, w, fun _ => rfl, mm, rfl, od, mo, oc, rc, td, g, rg, rgS mc o (mc o + 1), lo, hi, fun q k => if q = o ∧ k = mc o then m else mb q k, ?_⟩
              generalize hN : mmM (ouM (umM (amM M o X) od rg rc) (nI (mc o + 1)).toInt64) o (mc o) m = N
              have g2 : ∀ c k, N.1 c k = if c = 68 ∧ k = o then nI (mc o + 1) else if c = 69 ∧ k = 2 * o + mc o then nI m else if c = 64 ∧ k = 0 then nI 0 else (umM (amM M o X) od rg rc).1 c k := fun c k => by rw [← hN]; rfl
              have hhi : ∀ c k, 64 ≤ c → (umM (amM M o X) od rg rc).1 c k = M.1 c k := fun c k q => (umM_hi _ a2 a5 q).trans (pm2_n (by omega))
              have g0 : N.2.1 = M.2.1 := by rw [← hN]; rfl
              refine h.om ho (by omega) (x := X) (fun c k q => ?_) g0 (fun c k q => ?_) (fun q => ?_) (fun q k hq hk => ?_) (fun q k e => ?_) (fun z => ?_) (fun i hi => ?_)
              · rw [g2, if_neg (by omega), if_neg (by omega), if_neg (by omega)]
              · rw [g2, if_neg (by omega), if_neg (by omega), if_neg (by omega), hhi c k (by omega)]
              · rw [g2]
                by_cases e : q = o
                · rw [if_pos ⟨rfl, e⟩, if_pos e]
                · rw [if_neg (fun z => e z.2), if_neg (by omega), if_neg (by omega), hhi _ _ (by omega), if_neg e]
              · have hmq := (r1 q (by omega)).2.2.2.2.1
                rw [g2, if_neg (by omega)]
                by_cases e : q = o ∧ k = mc o
                · rw [if_pos e, if_pos ⟨rfl, by omega⟩]; exact ⟨rfl, hm⟩
                · have hk' : k < mc q := by
                    unfold rgS at hk
                    split at hk
                    · next z => subst z; have : k ≠ mc q := fun z => e ⟨rfl, z⟩; omega
                    · exact hk
                  rw [if_neg e, if_neg (fun z => e (by omega)), if_neg (by omega), hhi _ _ (by omega)]
                  exact r3 q k hq hk'
              · exact if_neg (fun z => e z.1)
              · show (if o = o ∧ 0 = mc o then m else mb o 0) ≠ (if o = o ∧ 1 = mc o then m else mb o 1)
                rw [if_neg (by omega), if_pos ⟨rfl, by omega⟩]
                exact hnm 0 (by omega)
              · rw [hX i hi]
                constructor
                · rintro ⟨k, k1, k2⟩
                  refine ⟨k, k1, ?_⟩
                  by_cases e : k = mc o
                  · rw [if_pos e] at k2; rw [if_pos ⟨rfl, e⟩]; exact k2
                  · rw [if_neg e] at k2; rw [if_neg (fun z => e z.2)]; exact k2
                · rintro ⟨k, k1, k2⟩
                  refine ⟨k, k1, ?_⟩
                  by_cases e : k = mc o
                  · rw [if_pos ⟨rfl, e⟩] at k2; rw [if_pos e]; exact k2
                  · rw [if_neg (fun z => e z.2)] at k2; rw [if_neg e]; exact k2
            · exact ⟨4, _, _, _, by decide, w_addMember_x4 hf (s_addMember_no6 hf a1 a7 a4 ho hm hne hnc (hnd.trans hdp) (mb_bc ro a4 ho) (r1 o (by omega)).2.2.2.2.1 hlt), fun z => absurd z (by decide), m_addMember_no6 hf a1 h.toM ho hm hne hnm hdp (by have := (r1 o (by omega)).2.2.2.2.1; omega), rfl, _, _, _, _, _, _, _, _, _, _, _, h.ms (((MS.rf _).cd 0).cd 4)⟩
    · exact ⟨1, _, _, _, by decide, w_addMember_x1 hf (s_addMember_no2 hf a7 a4 ho hy), fun z => absurd z (by decide), m_addMember_no2 hf a1 h.toM ho hy, rfl, _, _, _, _, _, _, _, _, _, _, _, h.ms (((MS.rf _).cd 0).cd 1)⟩
  · exact ⟨1, _, _, _, by decide, w_addMember_x1 hf (s_addMember_no1 hf a7 a4 hx), fun z => absurd z (by decide), m_addMember_no1 hf a1 h.toM hx, rfl, _, _, _, _, _, _, _, _, _, _, _, h.ms (((MS.rf _).cd 0).cd 1)⟩
theorem p_removeMember {l : Launch} (hf : l.stackTraces = false) {M : pmM} (h : RLX M) (x y : Int32) : PR l kL_removeMember kX4_removeMember 13 2 3 [.ref 0, .int x, .int y, .ref 84] [.ref 64, .int x, .int y] M := by
  obtain ⟨od, mo, oc, rc, td, g, rg, mc, lo, hi, mb, h⟩ := h
  obtain ⟨⟨a1, a2, a3, a4, a5, a6, a7, a8, a9, a10, a11, a12, a13, a14⟩, ro, ⟨b1, b2, b3, b4, b5⟩⟩ := id h
  by_cases hx : vp_in x oc
  · obtain ⟨o, ho, rfl⟩ := vp_in_of hx (by omega)
    by_cases hy : vp_in y oc
    · obtain ⟨m, hm, rfl⟩ := vp_in_of hy (by omega)
      obtain ⟨r1, r2, r3, r4, r5⟩ := id ro
      have hc2 := (r1 o (by omega)).2.2.2.2.1
      rcases first_b (fun k => decide (mb o k = m)) (mc o) with ⟨p, hp, hxk, hnk⟩ | hnm
      · have hxk := of_decide_eq_true hxk
        have hnk : ∀ j, j < p → mb o j ≠ m := fun j hj => of_decide_eq_false (hnk j hj)
        have hnc : hasb (M.1 (15 + 2 * o) 2) m = true := (r5 o (by omega) m (by omega)).mpr ⟨p, hp, hxk⟩
        have hX : ∀ i, i < 32 → (hasb (M.1 (15 + 2 * o) 2 &&& ((nI 1 <<< (nI m &&& 31)) ^^^ (-1))) i = true ↔ ∃ k, k < mc o - 1 ∧ (if p = 0 then mb o (k + 1) else mb o k) = i) := fun i hi => by
          rw [hasb_and, Bool.and_eq_true, hasb_not _ hi, sh_one (by omega) hi, Bool.not_eq_true', decide_eq_false_iff_not, r5 o (by omega) i hi]
          constructor
          · rintro ⟨⟨k, k1, k2⟩, e⟩
            have hkp : k ≠ p := fun z => e (by rw [← k2, z, hxk])
            by_cases e0 : p = 0
            · exact ⟨k - 1, by omega, by rw [if_pos e0, show k - 1 + 1 = k by omega]; exact k2⟩
            · exact ⟨k, by omega, by rw [if_neg e0]; exact k2⟩
          · rintro ⟨k, k1, k2⟩
            by_cases e0 : p = 0
            · rw [if_pos e0] at k2
              refine ⟨⟨k + 1, by omega, k2⟩, fun z => ?_⟩
              have hh := r4 o ho (by omega)
              have hk0 : k = 0 := by omega
              subst hk0; subst e0
              exact hh (by rw [hxk, ← z]; exact k2.symm)
            · rw [if_neg e0] at k2
              exact ⟨⟨k, by omega, k2⟩, fun z => hnk k (by omega) (by rw [k2, z])⟩
        have hbx : bcE (M.1 (15 + 2 * o) 2 &&& ((nI 1 <<< (nI m &&& 31)) ^^^ (-1))) = nI (mc o - 1) := cnt_mem (f := fun k => if p = 0 then mb o (k + 1) else mb o k) (by omega) (fun k hk => by
          show (if p = 0 then mb o (k + 1) else mb o k) < 32
          split
          · have := (r3 o (k + 1) ho (by omega)).2; omega
          · have := (r3 o k ho (by omega)).2; omega) (fun z => by omega) hX
        have w := w_removeMember_ok hf (s_removeMember_ok hf a1 a2 ro.hrg a8 a5 h.hfo a7 a4 ho hm hnc)
        rw [hbx] at w
        generalize hXX : (M.1 (15 + 2 * o) 2 &&& ((nI 1 <<< (nI m &&& 31)) ^^^ (-1))) = X at w hX
        have mm := m_removeMember_ok (M := (ouM (umM (amM M o X) od rg rc) (nI (mc o - 1)).toInt64)) hf a1 (h.toM.congr (show (umM (amM M o X) od rg rc).1 64 2 = M.1 64 2 from (umM_hi _ a2 a5 (by omega)).trans (pm2_n (by omega))) (fun c k h1 h2 => show (umM (amM M o X) od rg rc).1 c k = M.1 c k from (umM_hi _ a2 a5 (by omega)).trans (pm2_n (by omega)))) ho hm hp hxk hnk
        refine ⟨0, _, nI (mc o - 1), _, by decide, w, fun _ => rfl, mm, by unfold mnM; split <;> rfl, od, mo, oc, rc, td, g, rg, rgS mc o (mc o - 1), lo, hi, fun q k => if q = o ∧ p = 0 then mb q (k + 1) else mb q k, ?_⟩
        generalize hN : mnM (ouM (umM (amM M o X) od rg rc) (nI (mc o - 1)).toInt64) o p (mc o) = N
        have hhi : ∀ c k, 64 ≤ c → (umM (amM M o X) od rg rc).1 c k = M.1 c k := fun c k q => (umM_hi _ a2 a5 q).trans (pm2_n (by omega))
        have g2 : ∀ c k, N.1 c k = if c = 68 ∧ k = o then nI (mc o - 1) else if p = 0 ∧ c = 69 ∧ k = 2 * o then M.1 69 (2 * o + 1) else if c = 64 ∧ k = 0 then nI 0 else (umM (amM M o X) od rg rc).1 c k := fun c k => by
          rw [← hN]
          by_cases e3 : c = 68 ∧ k = o
          · rw [if_pos e3]
            exact if_pos e3
          · rw [if_neg e3]
            refine (if_neg e3).trans ?_
            by_cases e : p = 0
            · rw [if_pos e]
              show (if c = 69 ∧ k = 2 * o then (umM (amM M o X) od rg rc).1 69 (2 * o + 1) else if c = 64 ∧ k = 0 then nI 0 else _) = _
              rw [hhi 69 _ (by omega)]
              by_cases e2 : c = 69 ∧ k = 2 * o
              · rw [if_pos e2, if_pos ⟨e, e2⟩]
              · exact (if_neg e2).trans (if_neg (fun z => e2 z.2)).symm
            · rw [if_neg e, if_neg (fun z => e z.1)]
              rfl
        have g0 : N.2.1 = M.2.1 := by rw [← hN]; rfl
        refine h.om ho (by omega) (x := X) (fun c k q => ?_) g0 (fun c k q => ?_) (fun q => ?_) (fun q k hq hk => ?_) (fun q k e => ?_) (fun z => by omega) (fun i hi => ?_)
        · rw [g2, if_neg (by omega), if_neg (by omega), if_neg (by omega)]
        · rw [g2, if_neg (by omega), if_neg (by omega), if_neg (by omega), hhi c k (by omega)]
        · rw [g2]
          by_cases e : q = o
          · rw [if_pos ⟨rfl, e⟩, if_pos e]
          · rw [if_neg (fun z => e z.2), if_neg (by omega), if_neg (by omega), hhi _ _ (by omega), if_neg e]
        · have hmq := (r1 q (by omega)).2.2.2.2.1
          rw [g2, if_neg (by omega)]
          by_cases e : q = o
          · rw [rgS, if_pos e] at hk
            subst e
            have hk0 : k = 0 := by omega
            subst hk0
            by_cases e0 : p = 0
            · rw [if_pos ⟨e0, rfl, by omega⟩, if_pos ⟨rfl, e0⟩]
              exact r3 q 1 hq (by omega)
            · rw [if_neg (fun z => e0 z.1), if_neg (by omega), if_neg (fun z => e0 z.2), hhi _ _ (by omega)]
              exact r3 q 0 hq (by omega)
          · rw [rgS, if_neg e] at hk
            rw [if_neg (by omega), if_neg (by omega), if_neg (fun z => e z.1), hhi _ _ (by omega)]
            exact r3 q k hq hk
        · exact if_neg (fun z => e z.1)
        · rw [hX i hi]
          constructor
          · rintro ⟨k, k1, k2⟩
            refine ⟨k, k1, ?_⟩
            by_cases e : p = 0
            · rw [if_pos e] at k2; rw [if_pos ⟨rfl, e⟩]; exact k2
            · rw [if_neg e] at k2; rw [if_neg (fun z => e z.2)]; exact k2
          · rintro ⟨k, k1, k2⟩
            refine ⟨k, k1, ?_⟩
            by_cases e : p = 0
            · rw [if_pos ⟨rfl, e⟩] at k2; rw [if_pos e]; exact k2
            · rw [if_neg (fun z => e z.2)] at k2; rw [if_neg e]; exact k2
      · have hnm : ∀ j, j < mc o → mb o j ≠ m := fun j hj => of_decide_eq_false (hnm j hj)
        have hnc : hasb (M.1 (15 + 2 * o) 2) m = false := by
          rw [Bool.eq_false_iff]
          intro z
          obtain ⟨k, k1, k2⟩ := (r5 o (by omega) m (by omega)).mp z
          exact hnm k k1 k2
        exact ⟨2, _, _, _, by decide, w_removeMember_x2 hf (s_removeMember_no3 hf a1 a7 a4 ho hm hnc), fun z => absurd z (by decide), m_removeMember_no3 hf a1 h.toM ho hm hnm, rfl, _, _, _, _, _, _, _, _, _, _, _, h.ms (((MS.rf _).cd 0).cd 2)⟩
    · exact ⟨1, _, _, _, by decide, w_removeMember_x1 hf (s_removeMember_no2 hf a7 a4 ho hy), fun z => absurd z (by decide), m_removeMember_no2 hf a1 h.toM ho hy, rfl, _, _, _, _, _, _, _, _, _, _, _, h.ms (((MS.rf _).cd 0).cd 1)⟩
  · exact ⟨1, _, _, _, by decide, w_removeMember_x1 hf (s_removeMember_no1 hf a7 a4 hx), fun z => absurd z (by decide), m_removeMember_no1 hf a1 h.toM hx, rfl, _, _, _, _, _, _, _, _, _, _, _, h.ms (((MS.rf _).cd 0).cd 1)⟩
