/-! ===== pairs that change: ranges ===== -/
theorem umM_at (M : pmM) {od rg : Nat → Nat} {rc p f : Nat} (hp : p < rc) (hf : f < 3) : (umM M od rg rc).1 (33 + 3 * od p) f = mtv M rg (M.1 (32 + 3 * od p) f) := by
  have e : (anyB (fun q => 33 + 3 * od p == 33 + 3 * od q) rc && decide (f < 3)) = true := by
    rw [decide_eq_true hf, Bool.and_true, anyB_iff]
    exact ⟨p, hp, by simp⟩
  show (if (anyB (fun q => 33 + 3 * od p == 33 + 3 * od q) rc && decide (f < 3)) = true then mtv M rg (M.1 (33 + 3 * od p - 1) f) else M.1 (33 + 3 * od p) f) = _
  rw [if_pos e, show 33 + 3 * od p - 1 = 32 + 3 * od p by omega]
theorem REL.ob {M M2 N : pmM} {od mo : Nat → Nat} {oc rc td g : Nat} {rg mc rg' mc' : Nat → Nat} {lo hi mb lo' hi' mb' : Nat → Nat → Nat} (h : REL M od mo oc rc td g rg mc lo hi mb) (e2 : ∀ a k, a < 64 → (a < 15 ∨ 31 ≤ a) → M2.1 a k = M.1 a k) (eN : ∀ a k, a < 64 → N.1 a k = (umM M2 od rg' rc).1 a k) (eR : N.2.1 = M.2.1) (eM : ∀ a k, (a = 64 ∧ k ≠ 0) ∨ (70 ≤ a ∧ a ≤ 80) → N.1 a k = M.1 a k) (ro' : RO N oc rg' mc' lo' hi' mb') : REL N od mo oc rc td g rg' mc' lo' hi' mb' := by
  obtain ⟨⟨a1, a2, a3, a4, a5, a6, a7, a8, a9, a10, a11, a12, a13, a14⟩, ro, ⟨b1, b2, b3, b4, b5⟩⟩ := id h
  have e3 : ∀ a k, a < 64 → (a < 33 ∨ a % 3 ≠ 0) → N.1 a k = M2.1 a k := fun a k h1 h2 => (eN a k h1).trans (umM_no M2 (by omega))
  have e4 : ∀ a k, a < 64 → (a < 15 ∨ 31 ≤ a) → (a < 33 ∨ a % 3 ≠ 0) → N.1 a k = M.1 a k := fun a k h1 h2 h3 => (e3 a k h1 h3).trans (e2 a k h1 h2)
  have hot : OT M2 oc rg' mc' lo' hi' mb' := by
    obtain ⟨t1, t2, t3, t4⟩ := ro'.ot a4
    refine ⟨t1, t2, fun q hq i hi => ?_, fun q k hq hk => ?_⟩
    · rw [← e3 (15 + 2 * q) _ (by omega) (by omega)]; exact t3 q hq i hi
    · rw [← e3 (16 + 2 * q) _ (by omega) (by omega)]; exact t4 q k hq hk
  refine ⟨⟨eR.trans a1, a2, a3, a4, a5, a6, (e4 _ _ (by omega) (by omega) (by omega)).trans a7, (e4 _ _ (by omega) (by omega) (by omega)).trans a8, (e4 _ _ (by omega) (by omega) (by omega)).trans a9, (e4 _ _ (by omega) (by omega) (by omega)).trans a10, (eM _ _ (by omega)).trans a11, (eM _ _ (by omega)).trans a12, (eM _ _ (by omega)).trans a13, (eM _ _ (by omega)).trans a14⟩, ro', ⟨fun p hp => ?_, b2, fun s hs => ?_, fun p hp => ?_, fun p f hp hf => ?_⟩⟩
  · rw [eM 70 _ (by omega)]; exact b1 p hp
  · rw [eM 71 _ (by omega)]; exact b3 s hs
  · have hj := a2 p (by omega)
    rw [e4 (31 + 3 * od p) 0 (by omega) (by omega) (by omega), e4 (31 + 3 * od p) 1 (by omega) (by omega) (by omega), e4 (31 + 3 * od p) 2 (by omega) (by omega) (by omega), e4 (31 + 3 * od p) 3 (by omega) (by omega) (by omega), e4 (31 + 3 * od p) 4 (by omega) (by omega) (by omega), e4 (31 + 3 * od p) 5 (by omega) (by omega) (by omega), e4 (31 + 3 * od p) 6 (by omega) (by omega) (by omega), e4 (31 + 3 * od p) 7 (by omega) (by omega) (by omega), eM 72 _ (by omega), eM 73 _ (by omega), eM 75 _ (by omega), eM 76 _ (by omega), eM 77 _ (by omega), eM 78 _ (by omega), eM 79 _ (by omega), eM 80 _ (by omega)]
    exact b4 p hp
  · have hj := a2 p (by omega)
    obtain ⟨t1, t2, t3⟩ := b5 p f hp hf
    rw [e4 (32 + 3 * od p) _ (by omega) (by omega) (by omega), eN (33 + 3 * od p) _ (by omega), eM 74 _ (by omega), umM_at M2 hp hf, e2 (32 + 3 * od p) _ (by omega) (by omega), t1]
    exact ⟨rfl, t2, mt_st hot t2⟩

theorem umM_hi (M : pmM) {od rg : Nat → Nat} {rc a k : Nat} (hod : ∀ p, p < 8 → od p < 8) (h8 : rc ≤ 8) (h : 64 ≤ a) : (umM M od rg rc).1 a k = M.1 a k := by
  have e : anyB (fun q => a == 33 + 3 * od q) rc = false := by
    cases z : anyB (fun q => a == 33 + 3 * od q) rc with
    | false => rfl
    | true =>
      obtain ⟨q, q1, q2⟩ := (anyB_iff _ _).mp z
      have := hod q (by omega)
      have := eq_of_beq q2
      omega
  show (if (anyB (fun q => a == 33 + 3 * od q) rc && decide (k < 3)) = true then _ else M.1 a k) = _
  rw [e, Bool.false_and, if_neg (by decide)]
theorem p_addRange {l : Launch} (hf : l.stackTraces = false) {M : pmM} (h : RLX M) (x y z : Int32) : PR l kL_addRange kX4_addRange 12 2 5 [.ref 0, .int x, .int y, .int z, .ref 84] [.ref 64, .int x, .int y, .int z] M := by
  obtain ⟨od, mo, oc, rc, td, g, rg, mc, lo, hi, mb, h⟩ := h
  obtain ⟨⟨a1, a2, a3, a4, a5, a6, a7, a8, a9, a10, a11, a12, a13, a14⟩, ro, ⟨b1, b2, b3, b4, b5⟩⟩ := id h
  by_cases hx : vp_in x oc
  · obtain ⟨o, ho, rfl⟩ := vp_in_of hx (by omega)
    by_cases hy : ∃ a b : Nat, a ≤ b ∧ b < 32 ∧ y = nI a ∧ z = nI b
    · obtain ⟨a, b, hab, hb, rfl, rfl⟩ := hy
      by_cases hlt : rg o < 3
      · have w := w_addRange_ok hf (s_addRange_ok hf a1 a2 ro.hrg a8 a5 h.hfo a7 a4 ho hab hb hlt)
        have m := m_addRange_ok (M := ouM (umM (arM M o (rg o) a b) od (rgS rg o (rg o + 1)) rc) (nI (rg o + 1)).toInt64) hf a1 (h.toM.congr (show (umM (arM M o (rg o) a b) od (rgS rg o (rg o + 1)) rc).1 64 2 = M.1 64 2 from (umM_hi _ a2 a5 (by omega)).trans ((pm2_n (by omega)).trans (pm2_n (by omega)))) (fun c k h1 h2 => show (umM (arM M o (rg o) a b) od (rgS rg o (rg o + 1)) rc).1 c k = M.1 c k from (umM_hi _ a2 a5 (by omega)).trans ((pm2_n (by omega)).trans (pm2_n (by omega))))) ho hab hb hlt
        refine ⟨0, _, nI (rg o + 1), _, by decide, w, fun _ => rfl, m, rfl, od, mo, oc, rc, td, g, rgS rg o (rg o + 1), mc, fun q k => if q = o ∧ k = rg o then a else lo q k, fun q k => if q = o ∧ k = rg o then b else hi q k, mb, ?_⟩
        generalize hM2 : arM M o (rg o) a b = M2
        generalize hN : mrM (ouM (umM M2 od (rgS rg o (rg o + 1)) rc) (nI (rg o + 1)).toInt64) o (rg o) a b = N
        have f2 : ∀ c k, (c ≠ 16 + 2 * o ∨ k ≠ rg o) → (c ≠ 15 + 2 * o ∨ k ≠ 1) → M2.1 c k = M.1 c k := fun c k q1 q2 => by
          rw [← hM2]
          show (if c = 15 + 2 * o ∧ k = 1 then _ else if c = 16 + 2 * o ∧ k = rg o then _ else M.1 c k) = _
          rw [if_neg (by omega), if_neg (by omega)]
        have f3 : M2.1 (16 + 2 * o) (rg o) = rgO a b ∧ M2.1 (15 + 2 * o) 1 = nI (rg o + 1) := by
          rw [← hM2]
          exact ⟨(pm2_n (by omega)).trans pm2_e, pm2_e⟩
        have g2 : ∀ c k, (c ≠ 66 ∨ k ≠ 3 * o + rg o) → (c ≠ 67 ∨ k ≠ 3 * o + rg o) → (c ≠ 65 ∨ k ≠ o) → (c ≠ 64 ∨ k ≠ 0) → N.1 c k = (umM M2 od (rgS rg o (rg o + 1)) rc).1 c k := fun c k q1 q2 q3 q4 => by
          rw [← hN]
          show (if c = 65 ∧ k = o then _ else if c = 67 ∧ k = 3 * o + rg o then _ else if c = 66 ∧ k = 3 * o + rg o then _ else if c = 64 ∧ k = 0 then _ else (umM M2 od (rgS rg o (rg o + 1)) rc).1 c k) = _
          rw [if_neg (by omega), if_neg (by omega), if_neg (by omega), if_neg (by omega)]
        have g3 : N.1 66 (3 * o + rg o) = nI a ∧ N.1 67 (3 * o + rg o) = nI b ∧ N.1 65 o = nI (rg o + 1) := by
          rw [← hN]
          refine ⟨?_, ?_, pm2_e⟩
          · show (if 66 = 65 ∧ 3 * o + rg o = o then nI (rg o + 1) else if 66 = 67 ∧ 3 * o + rg o = 3 * o + rg o then nI b else if 66 = 66 ∧ 3 * o + rg o = 3 * o + rg o then nI a else _) = _
            rw [if_neg (by omega), if_neg (by omega), if_pos ⟨rfl, rfl⟩]
          · show (if 67 = 65 ∧ 3 * o + rg o = o then nI (rg o + 1) else if 67 = 67 ∧ 3 * o + rg o = 3 * o + rg o then nI b else _) = _
            rw [if_neg (by omega), if_pos ⟨rfl, rfl⟩]
        have g0 : N.2.1 = M.2.1 := by rw [← hN, ← hM2]; rfl
        have hum : ∀ c k, c < 33 ∨ 64 ≤ c → (umM M2 od (rgS rg o (rg o + 1)) rc).1 c k = M2.1 c k := fun c k q => by
          rcases q with q | q
          · exact umM_no _ (Or.inr q)
          · exact umM_hi _ a2 a5 q
        have g4 : ∀ c k, c < 33 ∨ 64 ≤ c → (c ≠ 16 + 2 * o ∨ k ≠ rg o) → (c ≠ 15 + 2 * o ∨ k ≠ 1) → (c ≠ 66 ∨ k ≠ 3 * o + rg o) → (c ≠ 67 ∨ k ≠ 3 * o + rg o) → (c ≠ 65 ∨ k ≠ o) → (c ≠ 64 ∨ k ≠ 0) → N.1 c k = M.1 c k := fun c k q0 q1 q2 q3 q4 q5 q6 => (g2 c k q3 q4 q5 q6).trans ((hum c k q0).trans (f2 c k q1 q2))
        have f16 : N.1 (16 + 2 * o) (rg o) = rgO a b := (g2 _ _ (by omega) (by omega) (by omega) (by omega)).trans ((hum _ _ (by omega)).trans f3.1)
        have f15 : N.1 (15 + 2 * o) 1 = nI (rg o + 1) := (g2 _ _ (by omega) (by omega) (by omega) (by omega)).trans ((hum _ _ (by omega)).trans f3.2)
        obtain ⟨r1, r2, r3, r4, r5⟩ := id ro
        refine h.ob (fun c k q1 q2 => f2 c k (by omega) (by omega)) (fun c k q => g2 c k (by omega) (by omega) (by omega) (by omega)) g0 (fun c k q => g4 c k (by omega) (by omega) (by omega) (by omega) (by omega) (by omega) (by omega)) ⟨fun q hq => ?_, fun q k hq hk => ?_, fun q k hq hk => ?_, r4, fun q hq i hi => ?_⟩
        · obtain ⟨t1, t2, t3, t4, t5, t6⟩ := r1 q hq
          rw [g4 68 _ (by omega) (by omega) (by omega) (by omega) (by omega) (by omega) (by omega)]
          by_cases e : q = o
          · subst e
            rw [rgS, if_pos rfl]
            exact ⟨f15, by omega, g3.2.2, t4, t5, fun z => absurd z (by omega)⟩
          · rw [rgS, if_neg e, g4 (15 + 2 * q) _ (by omega) (by omega) (by omega) (by omega) (by omega) (by omega) (by omega), g4 65 _ (by omega) (by omega) (by omega) (by omega) (by omega) (by omega) (by omega)]
            exact ⟨t1, t2, t3, t4, t5, t6⟩
        · dsimp only
          have hr := (r1 q (by omega)).2.1
          have hro := (r1 o (by omega)).2.1
          by_cases e : q = o ∧ k = rg o
          · obtain ⟨rfl, rfl⟩ := e
            rw [if_pos ⟨rfl, rfl⟩, if_pos ⟨rfl, rfl⟩]
            exact ⟨g3.1, g3.2.1, hab, hb, f16⟩
          · have hk' : k < rg q := by
              unfold rgS at hk
              split at hk
              · next z => subst z; have : k ≠ rg q := fun z => e ⟨rfl, z⟩; omega
              · exact hk
            have hne : 3 * q + k ≠ 3 * o + rg o := fun z => e (by omega)
            have hne2 : 16 + 2 * q ≠ 16 + 2 * o ∨ k ≠ rg o := by
              by_cases z : q = o
              · exact Or.inr (fun y => e ⟨z, y⟩)
              · exact Or.inl (by omega)
            rw [if_neg e, if_neg e, g4 66 _ (by omega) (by omega) (by omega) (by omega) (by omega) (by omega) (by omega), g4 67 _ (by omega) (by omega) (by omega) (by omega) (by omega) (by omega) (by omega), g4 (16 + 2 * q) _ (by omega) hne2 (by omega) (by omega) (by omega) (by omega) (by omega)]
            exact r2 q k hq hk'
        · rw [g4 69 _ (by omega) (by omega) (by omega) (by omega) (by omega) (by omega) (by omega)]; exact r3 q k hq hk
        · rw [g4 (15 + 2 * q) _ (by omega) (by omega) (by omega) (by omega) (by omega) (by omega) (by omega)]; exact r5 q hq i hi
      · exact ⟨3, _, _, _, by decide, w_addRange_x3 hf (s_addRange_no3 hf a1 ro.hrg a7 a4 ho hab hb hlt), fun z => absurd z (by decide), m_addRange_no3 hf a1 h.toM ho hab hb (by have := (ro.1 o (by omega)).2.1; omega), rfl, _, _, _, _, _, _, _, _, _, _, _, h.ms (((MS.rf _).cd 0).cd 3)⟩
    · have hy' : ∀ a b : Nat, a ≤ b → b < 32 → ¬ (y = nI a ∧ z = nI b) := fun a b g1 g2 g3 => hy ⟨a, b, g1, g2, g3.1, g3.2⟩
      exact ⟨2, _, _, _, by decide, w_addRange_x2 hf (s_addRange_no2 hf a7 a4 ho hy'), fun z => absurd z (by decide), m_addRange_no2 hf a1 h.toM ho hy', rfl, _, _, _, _, _, _, _, _, _, _, _, h.ms (((MS.rf _).cd 0).cd 2)⟩
  · exact ⟨1, _, _, _, by decide, w_addRange_x1 hf (s_addRange_no1 hf a7 a4 hx), fun z => absurd z (by decide), m_addRange_no1 hf a1 h.toM hx, rfl, _, _, _, _, _, _, _, _, _, _, _, h.ms (((MS.rf _).cd 0).cd 1)⟩
theorem p_removeRange {l : Launch} (hf : l.stackTraces = false) {M : pmM} (h : RLX M) (x : Int32) : PR l kL_removeRange kX4_removeRange 12 2 2 [.ref 0, .int x, .ref 84] [.ref 64, .int x] M := by
  obtain ⟨od, mo, oc, rc, td, g, rg, mc, lo, hi, mb, h⟩ := h
  obtain ⟨⟨a1, a2, a3, a4, a5, a6, a7, a8, a9, a10, a11, a12, a13, a14⟩, ro, ⟨b1, b2, b3, b4, b5⟩⟩ := id h
  by_cases hx : vp_in x oc
  · obtain ⟨o, ho, rfl⟩ := vp_in_of hx (by omega)
    by_cases hgt : 0 < rg o
    · have w := w_removeRange_ok hf (s_removeRange_ok hf a1 a2 ro.hrg a8 a5 h.hfo a7 a4 ho hgt)
      have m := m_removeRange_ok (M := ouM (umM (rrM M o (rg o)) od (rgS rg o (rg o - 1)) rc) (nI (rg o - 1)).toInt64) hf a1 (h.toM.congr (show (umM (rrM M o (rg o)) od (rgS rg o (rg o - 1)) rc).1 64 2 = M.1 64 2 from (umM_hi _ a2 a5 (by omega)).trans (pm2_n (by omega))) (fun c k h1 h2 => show (umM (rrM M o (rg o)) od (rgS rg o (rg o - 1)) rc).1 c k = M.1 c k from (umM_hi _ a2 a5 (by omega)).trans (pm2_n (by omega)))) ho hgt
      refine ⟨0, _, nI (rg o - 1), _, by decide, w, fun _ => rfl, m, rfl, od, mo, oc, rc, td, g, rgS rg o (rg o - 1), mc, lo, hi, mb, ?_⟩
      generalize hM2 : rrM M o (rg o) = M2
      generalize hN : mqM (ouM (umM M2 od (rgS rg o (rg o - 1)) rc) (nI (rg o - 1)).toInt64) o (rg o) = N
      have f2 : ∀ c k, (c ≠ 15 + 2 * o ∨ k ≠ 1) → M2.1 c k = M.1 c k := fun c k q2 => by
        rw [← hM2]
        show (if c = 15 + 2 * o ∧ k = 1 then _ else M.1 c k) = _
        rw [if_neg (by omega)]
      have f3 : M2.1 (15 + 2 * o) 1 = nI (rg o - 1) := by
        rw [← hM2]
        exact pm2_e
      have g2 : ∀ c k, (c ≠ 65 ∨ k ≠ o) → (c ≠ 64 ∨ k ≠ 0) → N.1 c k = (umM M2 od (rgS rg o (rg o - 1)) rc).1 c k := fun c k q3 q4 => by
        rw [← hN]
        show (if c = 65 ∧ k = o then _ else if c = 64 ∧ k = 0 then _ else (umM M2 od (rgS rg o (rg o - 1)) rc).1 c k) = _
        rw [if_neg (by omega), if_neg (by omega)]
      have g3 : N.1 65 o = nI (rg o - 1) := by
        rw [← hN]
        exact pm2_e
      have g0 : N.2.1 = M.2.1 := by rw [← hN, ← hM2]; rfl
      have hum : ∀ c k, c < 33 ∨ 64 ≤ c → (umM M2 od (rgS rg o (rg o - 1)) rc).1 c k = M2.1 c k := fun c k q => by
        rcases q with q | q
        · exact umM_no _ (Or.inr q)
        · exact umM_hi _ a2 a5 q
      have g4 : ∀ c k, c < 33 ∨ 64 ≤ c → (c ≠ 15 + 2 * o ∨ k ≠ 1) → (c ≠ 65 ∨ k ≠ o) → (c ≠ 64 ∨ k ≠ 0) → N.1 c k = M.1 c k := fun c k q0 q2 q5 q6 => (g2 c k q5 q6).trans ((hum c k q0).trans (f2 c k q2))
      have f15 : N.1 (15 + 2 * o) 1 = nI (rg o - 1) := (g2 _ _ (by omega) (by omega)).trans ((hum _ _ (by omega)).trans f3)
      obtain ⟨r1, r2, r3, r4, r5⟩ := id ro
      refine h.ob (fun c k q1 q2 => f2 c k (by omega)) (fun c k q => g2 c k (by omega) (by omega)) g0 (fun c k q => g4 c k (by omega) (by omega) (by omega) (by omega)) ⟨fun q hq => ?_, fun q k hq hk => ?_, fun q k hq hk => ?_, r4, fun q hq i hi => ?_⟩
      · obtain ⟨t1, t2, t3, t4, t5, t6⟩ := r1 q hq
        rw [g4 68 _ (by omega) (by omega) (by omega) (by omega)]
        by_cases e : q = o
        · subst e
          rw [rgS, if_pos rfl]
          exact ⟨f15, by omega, g3, t4, t5, fun z => absurd z (by omega)⟩
        · rw [rgS, if_neg e, g4 (15 + 2 * q) _ (by omega) (by omega) (by omega) (by omega), g4 65 _ (by omega) (by omega) (by omega) (by omega)]
          exact ⟨t1, t2, t3, t4, t5, t6⟩
      · have hk' : k < rg q := by
          unfold rgS at hk
          split at hk
          · next z => subst z; omega
          · exact hk
        rw [g4 66 _ (by omega) (by omega) (by omega) (by omega), g4 67 _ (by omega) (by omega) (by omega) (by omega), g4 (16 + 2 * q) _ (by omega) (by omega) (by omega) (by omega)]
        exact r2 q k hq hk'
      · rw [g4 69 _ (by omega) (by omega) (by omega) (by omega)]; exact r3 q k hq hk
      · rw [g4 (15 + 2 * q) _ (by omega) (by omega) (by omega) (by omega)]; exact r5 q hq i hi
    · exact ⟨2, _, _, _, by decide, w_removeRange_x2 hf (s_removeRange_no2 hf a1 ro.hrg a7 a4 ho (by omega)), fun z => absurd z (by decide), m_removeRange_no2 hf a1 h.toM ho (by omega), rfl, _, _, _, _, _, _, _, _, _, _, _, h.ms (((MS.rf _).cd 0).cd 2)⟩
  · exact ⟨1, _, _, _, by decide, w_removeRange_x1 hf (s_removeRange_no1 hf a7 a4 hx), fun z => absurd z (by decide), m_removeRange_no1 hf a1 h.toM hx, rfl, _, _, _, _, _, _, _, _, _, _, _, h.ms (((MS.rf _).cd 0).cd 1)⟩
