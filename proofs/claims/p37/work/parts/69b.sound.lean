/-! ===== the law's 'sound' ===== -/
theorem fl_self32 {x : UInt32} (h : vf_n32 x) : FP.fcmp x x = some .eq := FP.Core.fcmp_self (by
  rw [Ne, ← FP.Core.fIsNaN_iff, Bool.not_eq_true]; exact fl_no32.mp h)
theorem bI_n (b : Bool) : bI b = nI b.toNat := by cases b <;> rfl
theorem nI_nn {n : Nat} (h : n < 2 ^ 31) : ¬ nI n < 0 := fun z => by
  have := (nI_ltI (a := n) (b := 0) h (by decide)).mp z
  omega
theorem nI_ne {n : Nat} (h : n < 2 ^ 31) (h0 : n ≠ 0) : ¬ nI n = 0 := fun z => h0 ((nI_eq (b := 0) h (by decide)).mp z)
theorem nI_105 {n : Nat} (h : n < 2 ^ 31) : ¬ nI n = (-105 : Int32) := fun z => nI_nn h (by rw [z]; decide)
/-! a memory and its scratch: the rules' numbers are the same -/
section SXS
variable {l : Launch} {M N : pmM} {od : Nat → Nat} {oc rc td g : Nat} {rg : Nat → Nat} {H : Nat}
theorem ma_sx (hs : SX M N) {j : Nat} (hj : j < 8) (a b c : Nat) : maF N j a b c = maF M j a b c := by
  unfold maF
  rw [hs.2 (33 + 3 * j) 0 (by unfold scr; omega), hs.2 (33 + 3 * j) 1 (by unfold scr; omega), hs.2 (33 + 3 * j) 2 (by unfold scr; omega)]
theorem ms_sx (h : IV M od oc rc td g rg H) (hs : SX M N) {p : Nat} (hp : p < rc) (a b c : Nat) : msP N od p a b c = msP M od p a b c := by
  have h8 := h.rc8
  have := h.od8 p (by omega)
  unfold msP
  rw [hs.inF this, ma_sx hs this]
theorem de_sx (h : IV M od oc rc td g rg H) (hs : SX M N) {p : Nat} (hp : p < rc) : deN N od p = deN M od p := cn3_congr (fun a b c _ _ _ => by
  unfold dcD
  rw [ms_sx h hs hp, anyB_congr (f := fun q => msP N od q a b c) (g := fun q => msP M od q a b c) p (fun q hq => ms_sx h hs (by omega) a b c)])
theorem maN_sx (hs : SX M N) {j k : Nat} (hj : j < 8) (hk : k < 8) : maN N j k = maN M j k := cn3_congr (fun a b c _ _ _ => by rw [ma_sx hs hj, ma_sx hs hk])
theorem sh_sx (h : IV M od oc rc td g rg H) (hs : SX M N) {p : Nat} (hp : p < rc) : shF N od p = shF M od p := by
  have h8 := h.rc8
  rw [sh_nI N od (by omega), sh_nI M od (by omega), de_sx h hs hp, hs.inF (h.od8 p (by omega))]
theorem dc_sx (h : IV M od oc rc td g rg H) (hs : SX M N) (a b c : Nat) : dcA N od rc a b c = dcA M od rc a b c := by
  have h8 := h.rc8
  unfold dcA
  refine dcR_congr rc 0 0 (fun p hp => ?_)
  rw [Nat.zero_add]
  have := h.od8 p (by omega)
  refine ⟨ms_sx h hs hp a b c, ?_⟩
  unfold acP
  rw [hs.2 (31 + 3 * od p) 1 (by unfold scr; omega)]
theorem acN_sx (h : IV M od oc rc td g rg H) (hs : SX M N) : acN N od rc = acN M od rc := cn3_congr (fun a b c _ _ _ => dc_sx h hs a b c)
theorem r_sx (h : IV M od oc rc td g rg H) (hs : SX M N) {p : Nat} (hp : p < rc) (k : Nat) : N.1 (31 + 3 * od p) k = M.1 (31 + 3 * od p) k := by
  have h8 := h.rc8
  have := h.od8 p (by omega)
  exact hs.2 _ _ (by unfold scr; omega)
theorem su_sx (h : IV M od oc rc td g rg H) (hs : SX M N) : ∀ n, n ≤ rc → suS N od n = suS M od n
  | 0, _ => rfl
  | n + 1, hn => by rw [suS, suS, su_sx h hs n (by omega), r_sx h hs (by omega)]
theorem msF_sx (h : IV M od oc rc td g rg H) (hs : SX M N) {p : Nat} (hp : p < rc) : ∀ n, n ≤ p → msF N od p n = msF M od p n
  | 0, _ => rfl
  | n + 1, hn => by
    have h8 := h.rc8
    have h1 := h.od8 p (by omega)
    have h2 := h.od8 n (by omega)
    rw [msF, msF, msF_sx h hs hp n (by omega), hs.inF h2, pb_nI, pb_nI, maN_sx hs h2 h1, r_sx h hs (by omega)]
theorem q_ruleAt (hf : l.stackTraces = false) (h : IV M od oc rc td g rg H) (hs : SX M N) {p : Nat} (hp : p < rc) : SpH l kL_call 64 3 1 6 [.ref 0, .int (nI 10), .int (nI p), .int (nI 0), .int (nI 0)] N (.inl (some (.int (M.1 (31 + 3 * od p) 0)))) N := by
  have k := k_ruleAt (c0 := nI 0) (c1 := nI 0) hf (h.sx hs) hp
  rwa [r_sx h hs hp] at k
theorem q_decided (hf : l.stackTraces = false) (h : IV M od oc rc td g rg H) (hs : SX M N) {p : Nat} (hp : p < rc) : SpH l kL_call 64 14 1 6 [.ref 0, .int (nI 20), .int (M.1 (31 + 3 * od p) 0), .int (nI 0), .int (nI 0)] N (.inl (some (.int (nI (deN M od p))))) N := by
  have k := k_decided (c0 := nI 0) (c1 := nI 0) hf (h.sx hs) hp
  have h8 := h.rc8
  rwa [r_sx h hs hp, de_nI N od (by omega), de_sx h hs hp] at k
theorem q_inForce (hf : l.stackTraces = false) (h : IV M od oc rc td g rg H) (hs : SX M N) {p : Nat} (hp : p < rc) : SpH l kL_call 64 3 1 6 [.ref 0, .int (nI 11), .int (M.1 (31 + 3 * od p) 0), .int (nI 0), .int (nI 0)] N (.inl (some (.int (nI (inF M od p).toNat)))) N := by
  have k := k_inForce (c0 := nI 0) (c1 := nI 0) hf (h.sx hs) hp
  have h8 := h.rc8
  rwa [r_sx h hs hp, hs.inF (h.od8 p (by omega)), bI_n] at k
theorem q_hits (hf : l.stackTraces = false) (h : IV M od oc rc td g rg H) (hs : SX M N) {p : Nat} (hp : p < rc) : SpH l kL_call 64 3 1 6 [.ref 0, .int (nI 15), .int (M.1 (31 + 3 * od p) 0), .int (nI 0), .int (nI 0)] N (.inl (some (.int (M.1 (31 + 3 * od p) 5)))) N := by
  have k := k_hits (c0 := nI 0) (c1 := nI 0) hf (h.sx hs) hp
  rwa [r_sx h hs hp, r_sx h hs hp] at k
theorem q_busy (hf : l.stackTraces = false) (h : IV M od oc rc td g rg H) (hs : SX M N) {p : Nat} (hp : p < rc) : SpH l kL_call 64 3 1 6 [.ref 0, .int (nI 16), .int (M.1 (31 + 3 * od p) 0), .int (nI 0), .int (nI 0)] N (.inl (some (.int (M.1 (31 + 3 * od p) 6)))) N := by
  have k := k_busyDays (c0 := nI 0) (c1 := nI 0) hf (h.sx hs) hp
  rwa [r_sx h hs hp, r_sx h hs hp] at k
theorem q_shadowed (hf : l.stackTraces = false) (h : IV M od oc rc td g rg H) (hs : SX M N) {p : Nat} (hp : p < rc) : SpH l kL_call 64 15 1 6 [.ref 0, .int (nI 22), .int (M.1 (31 + 3 * od p) 0), .int (nI 0), .int (nI 0)] N (.inl (some (.int (nI (shF M od p).toNat)))) N := by
  have k := k_shadowed (c0 := nI 0) (c1 := nI 0) hf (h.sx hs) hp
  rwa [r_sx h hs hp, sh_sx h hs hp, bI_n] at k
theorem q_matched (hf : l.stackTraces = false) (h : IV M od oc rc td g rg H) (hs : SX M N) {p : Nat} (hp : p < rc) : SpH l kL_call 64 4 1 6 [.ref 0, .int (nI 19), .int (M.1 (31 + 3 * od p) 0), .int (nI 0), .int (nI 0)] N (.inl (some (.int (nI (maN M (od p) (od p)))))) N := by
  have k := k_matched (c0 := nI 0) (c1 := nI 0) hf (h.sx hs) hp
  have h8 := h.rc8
  have := h.od8 p (by omega)
  rwa [r_sx h hs hp, pb_nI, maN_sx hs this this] at k
theorem q_samples (hf : l.stackTraces = false) (h : IV M od oc rc td g rg H) (hs : SX M N) {p : Nat} (hp : p < rc) : SpH l kL_call 64 14 1 6 [.ref 0, .int (nI 21), .int (M.1 (31 + 3 * od p) 0), .int (nI 0), .int (nI 0)] N (.inl (some (.int (nI (deN M od p))))) (tdM od rc (-1) (nI 0) N) := by
  have k := k_samples (c0 := nI 0) (c1 := nI 0) hf (h.sx hs) hp
  have h' := h.sx hs
  rwa [r_sx h hs hp, td_de h'.od8 h'.rc8 h'.hfo hp, de_sx h hs hp] at k
theorem q_chMove (hf : l.stackTraces = false) (h : IV M od oc rc td g rg H) (hs : SX M N) {p : Nat} (hp : p < rc) : SpH l kL_call 64 15 2 12 [.ref 0, .int (nI 24), .int (M.1 (31 + 3 * od p) 0), .int (nI p), .int (nI 0)] N (.inl (some (.int (nI 0)))) N := by
  have k := k_chMove (c0 := nI 0) hf (h.sx hs) hp hp
  rwa [r_sx h hs hp, ch_self] at k
/-- what mainShadow tells -/
def mnP (M : pmM) (od : Nat → Nat) (rc p : Nat) (x : Int32) : Prop := (x = -105 ∧ ((shF M od p).toNat = 1 → maN M (od p) (od p) = 0)) ∨ ∃ q, q < rc ∧ inF M od q = true ∧ x = M.1 (31 + 3 * od q) 0
theorem q_main (hf : l.stackTraces = false) (h : IV M od oc rc td g rg H) (hs : SX M N) {p : Nat} (hp : p < rc) : ∃ x, mnP M od rc p x ∧ SpH l kL_call 64 4 2 12 [.ref 0, .int (nI 23), .int (M.1 (31 + 3 * od p) 0), .int (nI 0), .int (nI 0)] N (.inl (some (.int x))) N := by
  obtain ⟨k, k1, k2, k3, k4⟩ := ms_ex M od p p
  have h8 := h.rc8
  have e := msF_sx h hs hp p (Nat.le_refl p)
  by_cases q : k = 0
  · refine ⟨-105, Or.inl ⟨rfl, fun z => ?_⟩, ?_⟩
    · by_cases q2 : maN M (od p) (od p) = 0
      · exact q2
      · exfalso
        rw [sh_nI M od (by omega)] at z
        have z2 : (inF M od p && decide (deN M od p = 0)) = true := by
          cases e9 : (inF M od p && decide (deN M od p = 0)) with
          | true => rfl
          | false => rw [e9] at z; exact absurd z (by decide)
        obtain ⟨z3, z4⟩ := (Bool.and_eq_true _ _ ▸ z2 : inF M od p = true ∧ _)
        obtain ⟨r, r1, r2, r3⟩ := sh_ma z3 (of_decide_eq_true z4) q2
        have := k4 r r1 r2
        omega
    · have k := k_main_no (c0 := nI 0) (c1 := nI 0) hf (h.sx hs) hp (by rw [e, k2, q]; rfl)
      rwa [r_sx h hs hp] at k
  · obtain ⟨r, r1, r2, r3⟩ := k3 q
    refine ⟨_, Or.inr ⟨r, by omega, r2, r3⟩, ?_⟩
    have k := k_main_ok (c0 := nI 0) (c1 := nI 0) hf (h.sx hs) hp (by rw [e, k2]; exact nI_ne (by omega) q)
    rwa [r_sx h hs hp, e] at k
end SXS
theorem find_dec (M : pmM) (od : Nat → Nat) (a b c : Nat) : ∀ rc, (∃ p, p < rc ∧ (inF M od p = true ∧ maF M (od p) a b c = true) ∧ ∀ q, q < p → ¬ (inF M od q = true ∧ maF M (od q) a b c = true)) ∨ ∀ q, q < rc → ¬ (inF M od q = true ∧ maF M (od q) a b c = true)
  | 0 => Or.inr (fun q hq => absurd hq (Nat.not_lt_zero q))
  | rc + 1 => by
    rcases find_dec M od a b c rc with ⟨p, h1, h2⟩ | h
    · exact Or.inl ⟨p, by omega, h2⟩
    · by_cases e : inF M od rc = true ∧ maF M (od rc) a b c = true
      · exact Or.inl ⟨rc, by omega, e, h⟩
      · refine Or.inr (fun q hq => ?_)
        by_cases e2 : q = rc
        · rw [e2]; exact e
        · exact h q (by omega)
/-- which rule would decide a packet: told alike by decider, and if there is one it decides something -/
theorem q_decider {l : Launch} {M N : pmM} {od : Nat → Nat} {oc rc td g : Nat} {rg : Nat → Nat} {H : Nat} (hf : l.stackTraces = false) (h : IV M od oc rc td g rg H) (hs : SX M N) {a b c : Nat} (ha : a < 32) (hb : b < 32) (hc : c < 32) : ∃ x, (x = -1 ∨ ∃ p, p < rc ∧ x = M.1 (31 + 3 * od p) 0 ∧ deN M od p ≠ 0) ∧ SpH l kL_call 64 4 3 18 [.ref 0, .int (nI 14), .int (nI a), .int (nI b), .int (nI c)] N (.inl (some (.int x))) N := by
  have h' := h.sx hs
  rcases find_dec N od a b c rc with ⟨p, h1, h2, h3⟩ | h3
  · refine ⟨_, Or.inr ⟨p, h1, rfl, ?_⟩, ?_⟩
    · rw [← de_sx h hs h1]
      exact de_pos ha hb hc h2 h3
    · have k := k_decider_ok hf h' ha hb hc h1 h2 h3
      rwa [r_sx h hs h1] at k
  · exact ⟨-1, Or.inl rfl, k_decider_no hf h' ha hb hc h3⟩
def nnM (od : Nat → Nat) (rc : Nat) (M : pmM) : Nat → pmM
  | 0 => M
  | n + 1 => tdM od rc (-1) (nI 0) (nnM od rc M n)
theorem nn_s (od : Nat → Nat) (rc : Nat) (M : pmM) (n : Nat) : nnM od rc M (n + 1) = tdM od rc (-1) (nI 0) (nnM od rc M n) := by rw [nnM]
theorem nn_sx (od : Nat → Nat) (rc : Nat) (M : pmM) : ∀ n, SX M (nnM od rc M n)
  | 0 => by rw [nnM]; exact SX.rf M
  | n + 1 => by rw [nn_s]; exact (nn_sx od rc M n).tr (tdM_SX od rc (-1) (nI 0) (nnM od rc M n))
theorem so_a {l : Launch} {M N : pmM} {od : Nat → Nat} {oc rc td g : Nat} {rg : Nat → Nat} {H : Nat} {G : pmG} (hf : l.stackTraces = false) (h : IV M od oc rc td g rg H) (hs : SX M N) {p : Nat} (hp : p < rc) {gg s2 s3 s4 s5 mn : Int32} {u : Nat} (hu : u + 2 ≤ 200) (kk : Ev l kL_sound G (rmd 16 200 1200) 64 (u + 2) (6 * (u + 2)) 145 [some (.ref 0), some (.int gg), some (.int s2), some (.int s3), some (.int s4), some (.int s5), some (.int (nI p)), some (.int (M.1 (31 + 3 * od p) 0)), some (.int (nI (deN M od p))), some (.int (nI (inF M od p).toNat)), some (.int (mn))] [] (tdM od rc (-1) (nI 0) N)) : Ev l kL_sound G (rmd 16 200 1200) 64 (u) (6 * (u)) 110 [some (.ref 0), some (.int gg), some (.int s2), some (.int s3), some (.int s4), some (.int s5), some (.int (nI p)), some (.int (M.1 (31 + 3 * od p) 0)), some (.int (nI (deN M od p))), some (.int (nI (inF M od p).toNat)), some (.int (mn))] [] N := by
  have h8 := h.rc8
  have b1 := deN_le M od p
  have b2 : maN M (od p) (od p) ≤ 32768 := cn3_le _
  have b3 : (inF M od p).toNat ≤ 1 := Bool.toNat_le _
  have b4 : (shF M od p).toNat ≤ 1 := Bool.toNat_le _
  refine e_iload_8 dL_sound_110 rfl ?_
  refine e_aload_0 dL_sound_112 rfl ?_
  refine e_bipush (v := nI 21) dL_sound_113 rfl bd_21 ?_
  refine e_iload_7 dL_sound_115 rfl ?_
  refine e_iconst (v := nI 0) dL_sound_117 rfl ic_0 ?_
  refine e_iconst (v := nI 0) dL_sound_118 rfl ic_0 ?_
  refine e_callW dL_sound_119 rfl csL_117 (q_samples hf h hs hp) rfl rfl ⟨Nat.le_of_ble_eq_true rfl, Nat.le_of_ble_eq_true rfl⟩ ⟨(by show _ ≤ 200; omega), (by show _ ≤ 1200; omega)⟩ rfl rfl (Nat.le_of_ble_eq_true rfl) ?_
  refine e_nc_ne_f dL_sound_122 rfl ⟨276, by decide⟩ (by omega) (by omega) rfl ?_
  refine e_iload_8 dL_sound_125 rfl ?_
  refine e_if_lt_f dL_sound_127 rfl ⟨276, by decide⟩ (nI_nn (by omega)) ?_
  refine e_iload_8 dL_sound_130 rfl ?_
  refine e_aload_0 dL_sound_132 rfl ?_
  refine e_bipush (v := nI 19) dL_sound_133 rfl bd_19 ?_
  refine e_iload_7 dL_sound_135 rfl ?_
  refine e_iconst (v := nI 0) dL_sound_137 rfl ic_0 ?_
  refine e_iconst (v := nI 0) dL_sound_138 rfl ic_0 ?_
  refine e_callW dL_sound_139 rfl csL_117 (q_matched hf h (hs.tr (tdM_SX od rc (-1) (nI 0) N)) hp) rfl rfl ⟨Nat.le_of_ble_eq_true rfl, Nat.le_of_ble_eq_true rfl⟩ ⟨(by show _ ≤ 200; omega), (by show _ ≤ 1200; omega)⟩ rfl rfl (Nat.le_of_ble_eq_true rfl) ?_
  refine e_nc_gt_f dL_sound_142 rfl ⟨276, by decide⟩ (by omega) (by omega) (de_le_ma M od p) ?_
  exact e_wid (by omega) (by omega) kk
theorem so_b {l : Launch} {M N : pmM} {od : Nat → Nat} {oc rc td g : Nat} {rg : Nat → Nat} {H : Nat} {G : pmG} (hf : l.stackTraces = false) (h : IV M od oc rc td g rg H) (hs : SX M N) {p : Nat} (hp : p < rc) {gg s2 s3 s4 s5 mn : Int32} {u : Nat} (kk : Ev l kL_sound G (rmd 16 200 1200) 64 (u) (6 * (u)) 155 [some (.ref 0), some (.int gg), some (.int s2), some (.int s3), some (.int s4), some (.int s5), some (.int (nI p)), some (.int (M.1 (31 + 3 * od p) 0)), some (.int (nI (deN M od p))), some (.int (nI (inF M od p).toNat)), some (.int (mn))] [] N) : Ev l kL_sound G (rmd 16 200 1200) 64 (u) (6 * (u)) 145 [some (.ref 0), some (.int gg), some (.int s2), some (.int s3), some (.int s4), some (.int s5), some (.int (nI p)), some (.int (M.1 (31 + 3 * od p) 0)), some (.int (nI (deN M od p))), some (.int (nI (inF M od p).toNat)), some (.int (mn))] [] N := by
  have h8 := h.rc8
  have b1 := deN_le M od p
  have b2 : maN M (od p) (od p) ≤ 32768 := cn3_le _
  have b3 : (inF M od p).toNat ≤ 1 := Bool.toNat_le _
  have b4 : (shF M od p).toNat ≤ 1 := Bool.toNat_le _
  refine e_iload_9 dL_sound_145 rfl ?_
  by_cases q : (inF M od p).toNat = 0
  · refine e_if_ne_f dL_sound_147 rfl ⟨155, by decide⟩ (by rw [q]; rfl) ?_
    refine e_iload_8 dL_sound_150 rfl ?_
    refine e_if_ne_f dL_sound_152 rfl ⟨276, by decide⟩ (by rw [de_off (by cases e : inF M od p with | false => rfl | true => rw [e] at q; exact absurd q (by decide))]; rfl) ?_
    exact kk
  · refine e_if_ne_t (tgt := 155) dL_sound_147 (by decide) (nI_ne (by omega) q) ?_
    exact kk
theorem so_c {l : Launch} {M N : pmM} {od : Nat → Nat} {oc rc td g : Nat} {rg : Nat → Nat} {H : Nat} {G : pmG} (hf : l.stackTraces = false) (h : IV M od oc rc td g rg H) (hs : SX M N) {p : Nat} (hp : p < rc) {gg s2 s3 s4 s5 mn : Int32} {u : Nat} (hu : u + 1 ≤ 200) (kk : Ev l kL_sound G (rmd 16 200 1200) 64 (u + 1) (6 * (u + 1)) 184 [some (.ref 0), some (.int gg), some (.int s2), some (.int s3), some (.int s4), some (.int s5), some (.int (nI p)), some (.int (M.1 (31 + 3 * od p) 0)), some (.int (nI (deN M od p))), some (.int (nI (inF M od p).toNat)), some (.int (mn))] [] N) : Ev l kL_sound G (rmd 16 200 1200) 64 (u) (6 * (u)) 155 [some (.ref 0), some (.int gg), some (.int s2), some (.int s3), some (.int s4), some (.int s5), some (.int (nI p)), some (.int (M.1 (31 + 3 * od p) 0)), some (.int (nI (deN M od p))), some (.int (nI (inF M od p).toNat)), some (.int (mn))] [] N := by
  have h8 := h.rc8
  have b1 := deN_le M od p
  have b2 : maN M (od p) (od p) ≤ 32768 := cn3_le _
  have b3 : (inF M od p).toNat ≤ 1 := Bool.toNat_le _
  have b4 : (shF M od p).toNat ≤ 1 := Bool.toNat_le _
  refine e_aload_0 dL_sound_155 rfl ?_
  refine e_bipush (v := nI 22) dL_sound_156 rfl bd_22 ?_
  refine e_iload_7 dL_sound_158 rfl ?_
  refine e_iconst (v := nI 0) dL_sound_160 rfl ic_0 ?_
  refine e_iconst (v := nI 0) dL_sound_161 rfl ic_0 ?_
  refine e_callW dL_sound_162 rfl csL_117 (q_shadowed hf h hs hp) rfl rfl ⟨Nat.le_of_ble_eq_true rfl, Nat.le_of_ble_eq_true rfl⟩ ⟨(by show _ ≤ 200; omega), (by show _ ≤ 1200; omega)⟩ rfl rfl (Nat.le_of_ble_eq_true rfl) ?_
  refine e_iload_9 dL_sound_165 rfl ?_
  refine e_iconst (v := nI 1) dL_sound_167 rfl ic_1 ?_
  rw [sh_nI M od (show p ≤ 8 by omega)]
  have b5 : (inF M od p && decide (deN M od p = 0)).toNat ≤ 1 := Bool.toNat_le _
  by_cases q : (inF M od p).toNat = 1
  · refine e_nc_ne_f dL_sound_168 rfl ⟨180, by decide⟩ (by omega) (by omega) q ?_
    refine e_iload_8 dL_sound_171 rfl ?_
    have q1 : inF M od p = true := by cases e : inF M od p with | true => rfl | false => rw [e] at q; exact absurd q (by decide)
    by_cases q2 : deN M od p = 0
    · refine e_if_ne_f dL_sound_173 rfl ⟨180, by decide⟩ (by rw [q2]; rfl) ?_
      refine e_iconst (v := nI 1) dL_sound_176 rfl ic_1 ?_
      refine e_goto (tgt := 181) dL_sound_177 (by decide) ?_
      refine e_nc_ne_f dL_sound_181 rfl ⟨276, by decide⟩ (by omega) (by omega) (by rw [q1, decide_eq_true q2]; rfl) ?_
      exact e_wid (by omega) (by omega) kk
    · refine e_if_ne_t (tgt := 180) dL_sound_173 (by decide) (nI_ne (by omega) q2) ?_
      refine e_iconst (v := nI 0) dL_sound_180 rfl ic_0 ?_
      refine e_nc_ne_f dL_sound_181 rfl ⟨276, by decide⟩ (by omega) (by omega) (by rw [q1, decide_eq_false q2]; rfl) ?_
      exact e_wid (by omega) (by omega) kk
  · have q1 : inF M od p = false := by cases e : inF M od p with | false => rfl | true => rw [e] at q; exact absurd rfl q
    refine e_nc_ne_t (tgt := 180) dL_sound_168 (by decide) (by omega) (by omega) q ?_
    refine e_iconst (v := nI 0) dL_sound_180 rfl ic_0 ?_
    refine e_nc_ne_f dL_sound_181 rfl ⟨276, by decide⟩ (by omega) (by omega) (by rw [q1]; rfl) ?_
    exact e_wid (by omega) (by omega) kk
theorem so_d {l : Launch} {M N : pmM} {od : Nat → Nat} {oc rc td g : Nat} {rg : Nat → Nat} {H : Nat} {G : pmG} (hf : l.stackTraces = false) (h : IV M od oc rc td g rg H) (hs : SX M N) {p : Nat} (hp : p < rc) {gg s2 s3 s4 s5 mn : Int32} {u : Nat} (hg : g < 2 ^ 30) (hm : mnP M od rc p mn) (hu : u + 1 ≤ 200) (kk : Ev l kL_sound G (rmd 16 200 1200) 64 (u + 1) (6 * (u + 1)) 205 [some (.ref 0), some (.int gg), some (.int s2), some (.int s3), some (.int s4), some (.int s5), some (.int (nI p)), some (.int (M.1 (31 + 3 * od p) 0)), some (.int (nI (deN M od p))), some (.int (nI (inF M od p).toNat)), some (.int (mn))] [] N) : Ev l kL_sound G (rmd 16 200 1200) 64 (u) (6 * (u)) 184 [some (.ref 0), some (.int gg), some (.int s2), some (.int s3), some (.int s4), some (.int s5), some (.int (nI p)), some (.int (M.1 (31 + 3 * od p) 0)), some (.int (nI (deN M od p))), some (.int (nI (inF M od p).toNat)), some (.int (mn))] [] N := by
  have h8 := h.rc8
  have b1 := deN_le M od p
  have b2 : maN M (od p) (od p) ≤ 32768 := cn3_le _
  have b3 : (inF M od p).toNat ≤ 1 := Bool.toNat_le _
  have b4 : (shF M od p).toNat ≤ 1 := Bool.toNat_le _
  rcases hm with ⟨rfl, -⟩ | ⟨q, hq, hi, rfl⟩
  · refine e_iload_10 dL_sound_184 rfl ?_
    refine e_bipush (v := -105) dL_sound_186 rfl bc_m105 ?_
    refine e_ic_eq_t (tgt := 205) dL_sound_188 (by decide) rfl ?_
    exact e_wid (by omega) (by omega) kk
  · obtain ⟨⟨n, n1, n2⟩, -⟩ := h.rule q hq
    have b6 : (inF M od q).toNat ≤ 1 := Bool.toNat_le _
    refine e_iload_10 dL_sound_184 rfl ?_
    refine e_bipush (v := -105) dL_sound_186 rfl bc_m105 ?_
    refine e_ic_eq_f dL_sound_188 rfl ⟨205, by decide⟩ (by rw [n2]; exact nI_105 (by omega)) ?_
    refine e_aload_0 dL_sound_191 rfl ?_
    refine e_bipush (v := nI 11) dL_sound_192 rfl bd_11 ?_
    refine e_iload_10 dL_sound_194 rfl ?_
    refine e_iconst (v := nI 0) dL_sound_196 rfl ic_0 ?_
    refine e_iconst (v := nI 0) dL_sound_197 rfl ic_0 ?_
    refine e_callW dL_sound_198 rfl csL_117 (q_inForce hf h hs hq) rfl rfl ⟨Nat.le_of_ble_eq_true rfl, Nat.le_of_ble_eq_true rfl⟩ ⟨(by show _ ≤ 200; omega), (by show _ ≤ 1200; omega)⟩ rfl rfl (Nat.le_of_ble_eq_true rfl) ?_
    refine e_iconst (v := nI 1) dL_sound_201 rfl ic_1 ?_
    refine e_nc_ne_f dL_sound_202 rfl ⟨276, by decide⟩ (by omega) (by omega) (by rw [hi]; rfl) ?_
    exact kk
theorem so_e {l : Launch} {M N : pmM} {od : Nat → Nat} {oc rc td g : Nat} {rg : Nat → Nat} {H : Nat} {G : pmG} (hf : l.stackTraces = false) (h : IV M od oc rc td g rg H) (hs : SX M N) {p : Nat} (hp : p < rc) {gg s2 s3 s4 s5 mn : Int32} {u : Nat} (hH : H < 2 ^ 30) (hu : u + 4 ≤ 200) (kk : Ev l kL_sound G (rmd 16 200 1200) 64 (u + 4) (6 * (u + 4)) 242 [some (.ref 0), some (.int gg), some (.int s2), some (.int s3), some (.int s4), some (.int s5), some (.int (nI p)), some (.int (M.1 (31 + 3 * od p) 0)), some (.int (nI (deN M od p))), some (.int (nI (inF M od p).toNat)), some (.int (mn))] [] N) : Ev l kL_sound G (rmd 16 200 1200) 64 (u) (6 * (u)) 205 [some (.ref 0), some (.int gg), some (.int s2), some (.int s3), some (.int s4), some (.int s5), some (.int (nI p)), some (.int (M.1 (31 + 3 * od p) 0)), some (.int (nI (deN M od p))), some (.int (nI (inF M od p).toNat)), some (.int (mn))] [] N := by
  have h8 := h.rc8
  have b1 := deN_le M od p
  have b2 : maN M (od p) (od p) ≤ 32768 := cn3_le _
  have b3 : (inF M od p).toNat ≤ 1 := Bool.toNat_le _
  have b4 : (shF M od p).toNat ≤ 1 := Bool.toNat_le _
  obtain ⟨-, -, -, ⟨x, y, y1, y2, y3, y4⟩, -⟩ := h.rule p hp
  refine e_aload_0 dL_sound_205 rfl ?_
  refine e_bipush (v := nI 24) dL_sound_206 rfl bc_24 ?_
  refine e_iload_7 dL_sound_208 rfl ?_
  refine e_iload_6 dL_sound_210 rfl ?_
  refine e_iconst (v := nI 0) dL_sound_212 rfl ic_0 ?_
  refine e_callW dL_sound_213 rfl csL_117 (q_chMove hf h hs hp) rfl rfl ⟨Nat.le_of_ble_eq_true rfl, Nat.le_of_ble_eq_true rfl⟩ ⟨(by show _ ≤ 200; omega), (by show _ ≤ 1200; omega)⟩ rfl rfl (Nat.le_of_ble_eq_true rfl) ?_
  refine e_if_ne_f dL_sound_216 rfl ⟨276, by decide⟩ rfl ?_
  refine e_aload_0 dL_sound_219 rfl ?_
  refine e_bipush (v := nI 16) dL_sound_220 rfl bc_16 ?_
  refine e_iload_7 dL_sound_222 rfl ?_
  refine e_iconst (v := nI 0) dL_sound_224 rfl ic_0 ?_
  refine e_iconst (v := nI 0) dL_sound_225 rfl ic_0 ?_
  refine e_callW dL_sound_226 rfl csL_117 (q_busy hf h hs hp) rfl rfl ⟨Nat.le_of_ble_eq_true rfl, Nat.le_of_ble_eq_true rfl⟩ ⟨(by show _ ≤ 200; omega), (by show _ ≤ 1200; omega)⟩ rfl rfl (Nat.le_of_ble_eq_true rfl) ?_
  refine e_aload_0 dL_sound_229 rfl ?_
  refine e_bipush (v := nI 15) dL_sound_230 rfl bd_15 ?_
  refine e_iload_7 dL_sound_232 rfl ?_
  refine e_iconst (v := nI 0) dL_sound_234 rfl ic_0 ?_
  refine e_iconst (v := nI 0) dL_sound_235 rfl ic_0 ?_
  refine e_callW dL_sound_236 rfl csL_117 (q_hits hf h hs hp) rfl rfl ⟨Nat.le_of_ble_eq_true rfl, Nat.le_of_ble_eq_true rfl⟩ ⟨(by show _ ≤ 200; omega), (by show _ ≤ 1200; omega)⟩ rfl rfl (Nat.le_of_ble_eq_true rfl) ?_
  refine e_ic_gt_f dL_sound_239 rfl ⟨276, by decide⟩ (by rw [y3, y4]; exact fun z => by have := (nI_ltI (by omega) (by omega)).mp z; omega) ?_
  exact e_wid (by omega) (by omega) kk
theorem so_f {l : Launch} {M N : pmM} {od : Nat → Nat} {oc rc td g : Nat} {rg : Nat → Nat} {H : Nat} {G : pmG} (hf : l.stackTraces = false) (h : IV M od oc rc td g rg H) (hs : SX M N) {p : Nat} (hp : p < rc) {gg s2 s3 s4 s5 mn : Int32} {u : Nat} (hg : g < 2 ^ 30) (hm : mnP M od rc p mn) (hu : u + 2 ≤ 200) (kk : Ev l kL_sound G (rmd 16 200 1200) 64 (u + 2) (6 * (u + 2)) 278 [some (.ref 0), some (.int gg), some (.int s2), some (.int s3), some (.int s4), some (.int s5), some (.int (nI p)), some (.int (M.1 (31 + 3 * od p) 0)), some (.int (nI (deN M od p))), some (.int (nI (inF M od p).toNat)), some (.int (mn))] [] N) : Ev l kL_sound G (rmd 16 200 1200) 64 (u) (6 * (u)) 242 [some (.ref 0), some (.int gg), some (.int s2), some (.int s3), some (.int s4), some (.int s5), some (.int (nI p)), some (.int (M.1 (31 + 3 * od p) 0)), some (.int (nI (deN M od p))), some (.int (nI (inF M od p).toNat)), some (.int (mn))] [] N := by
  have h8 := h.rc8
  have b1 := deN_le M od p
  have b2 : maN M (od p) (od p) ≤ 32768 := cn3_le _
  have b3 : (inF M od p).toNat ≤ 1 := Bool.toNat_le _
  have b4 : (shF M od p).toNat ≤ 1 := Bool.toNat_le _
  refine e_aload_0 dL_sound_242 rfl ?_
  refine e_bipush (v := nI 22) dL_sound_243 rfl bd_22 ?_
  refine e_iload_7 dL_sound_245 rfl ?_
  refine e_iconst (v := nI 0) dL_sound_247 rfl ic_0 ?_
  refine e_iconst (v := nI 0) dL_sound_248 rfl ic_0 ?_
  refine e_callW dL_sound_249 rfl csL_117 (q_shadowed hf h hs hp) rfl rfl ⟨Nat.le_of_ble_eq_true rfl, Nat.le_of_ble_eq_true rfl⟩ ⟨(by show _ ≤ 200; omega), (by show _ ≤ 1200; omega)⟩ rfl rfl (Nat.le_of_ble_eq_true rfl) ?_
  refine e_iconst (v := nI 1) dL_sound_252 rfl ic_1 ?_
  by_cases q : (shF M od p).toNat = 1
  · refine e_nc_ne_f dL_sound_253 rfl ⟨278, by decide⟩ (by omega) (by omega) q ?_
    refine e_aload_0 dL_sound_256 rfl ?_
    refine e_bipush (v := nI 19) dL_sound_257 rfl bd_19 ?_
    refine e_iload_7 dL_sound_259 rfl ?_
    refine e_iconst (v := nI 0) dL_sound_261 rfl ic_0 ?_
    refine e_iconst (v := nI 0) dL_sound_262 rfl ic_0 ?_
    refine e_callW dL_sound_263 rfl csL_117 (q_matched hf h hs hp) rfl rfl ⟨Nat.le_of_ble_eq_true rfl, Nat.le_of_ble_eq_true rfl⟩ ⟨(by show _ ≤ 200; omega), (by show _ ≤ 1200; omega)⟩ rfl rfl (Nat.le_of_ble_eq_true rfl) ?_
    by_cases q2 : maN M (od p) (od p) = 0
    · refine e_if_le_t (tgt := 278) dL_sound_266 (by decide) (by rw [q2]; decide) ?_
      exact e_wid (by omega) (by omega) kk
    · rcases hm with ⟨rfl, hm⟩ | ⟨r, hr, hi, rfl⟩
      · exact absurd (hm q) q2
      · obtain ⟨⟨n, n1, n2⟩, -⟩ := h.rule r hr
        refine e_if_le_f dL_sound_266 rfl ⟨278, by decide⟩ (fun z => q2 (by have := (nI_leI (b := 0) (by omega) (by decide)).mp z; omega)) ?_
        refine e_iload_10 dL_sound_269 rfl ?_
        refine e_bipush (v := -105) dL_sound_271 rfl bc_m105 ?_
        refine e_ic_ne_t (tgt := 278) dL_sound_273 (by decide) (by rw [n2]; exact nI_105 (by omega)) ?_
        exact e_wid (by omega) (by omega) kk
  · refine e_nc_ne_t (tgt := 278) dL_sound_253 (by decide) (by omega) (by omega) q ?_
    exact e_wid (by omega) (by omega) kk
theorem cntN_s (b : Nat → Bool) (n : Nat) : cntN b (n + 1) = cntN b n + (b n).toNat := by rw [cntN]; cases b n <;> rfl
theorem so_one {l : Launch} {M N : pmM} {od : Nat → Nat} {oc rc td g : Nat} {rg : Nat → Nat} {H : Nat} {G : pmG} (hf : l.stackTraces = false) (h : IV M od oc rc td g rg H) (hs : SX M N) {p : Nat} (hp : p < rc) {gg : Int32} {u : Nat} (hg : g < 2 ^ 30) (hH : H < 2 ^ 30) (hu : u + 17 ≤ 200) (kk : Ev l kL_sound G (rmd 16 200 1200) 64 (u + 17) (6 * (u + 17)) 13 [some (.ref 0), some (.int gg), some (.int (nI (sumN (p + 1) (deN M od)))), some (.int (nI (cntN (shF M od) (p + 1)))), some (.int (nI (cntN (inF M od) (p + 1)))), some (.int (suS M od (p + 1))), some (.int (nI (p + 1))), none, none, none, none] [] (tdM od rc (-1) (nI 0) N)) : Ev l kL_sound G (rmd 16 200 1200) 64 (u) (6 * (u)) 13 [some (.ref 0), some (.int gg), some (.int (nI (sumN (p) (deN M od)))), some (.int (nI (cntN (shF M od) (p)))), some (.int (nI (cntN (inF M od) (p)))), some (.int (suS M od (p))), some (.int (nI (p))), none, none, none, none] [] N := by
  have h8 := h.rc8
  obtain ⟨mn, hm, hmS⟩ := q_main hf h hs hp
  refine e_iload_6 dL_sound_13 rfl ?_
  refine e_aload_0 dL_sound_15 rfl ?_
  refine e_callV dL_sound_16 rfl csL_123 (s_rules hf (h.sx hs).hrc h8) rfl rfl ps_0 (by decide) (by decide) ⟨Nat.le_of_ble_eq_true rfl, Nat.le_of_ble_eq_true rfl⟩ ⟨(by show _ ≤ 200; omega), (by show _ ≤ 1200; omega)⟩ rfl rfl (Nat.le_of_ble_eq_true rfl) ?_
  refine e_nc_ge_f dL_sound_19 rfl ⟨284, by decide⟩ (by omega) (by omega) hp ?_
  refine e_aload_0 dL_sound_22 rfl ?_
  refine e_bipush (v := nI 10) dL_sound_23 rfl bd_10 ?_
  refine e_iload_6 dL_sound_25 rfl ?_
  refine e_iconst (v := nI 0) dL_sound_27 rfl ic_0 ?_
  refine e_iconst (v := nI 0) dL_sound_28 rfl ic_0 ?_
  refine e_callW dL_sound_29 rfl csL_117 (q_ruleAt hf h hs hp) rfl rfl ⟨Nat.le_of_ble_eq_true rfl, Nat.le_of_ble_eq_true rfl⟩ ⟨(by show _ ≤ 200; omega), (by show _ ≤ 1200; omega)⟩ rfl rfl (Nat.le_of_ble_eq_true rfl) ?_
  refine e_istore_7 dL_sound_32 rfl (Nat.le_of_ble_eq_true rfl) rfl ?_
  refine e_aload_0 dL_sound_34 rfl ?_
  refine e_bipush (v := nI 20) dL_sound_35 rfl bd_20 ?_
  refine e_iload_7 dL_sound_37 rfl ?_
  refine e_iconst (v := nI 0) dL_sound_39 rfl ic_0 ?_
  refine e_iconst (v := nI 0) dL_sound_40 rfl ic_0 ?_
  refine e_callW dL_sound_41 rfl csL_117 (q_decided hf h hs hp) rfl rfl ⟨Nat.le_of_ble_eq_true rfl, Nat.le_of_ble_eq_true rfl⟩ ⟨(by show _ ≤ 200; omega), (by show _ ≤ 1200; omega)⟩ rfl rfl (Nat.le_of_ble_eq_true rfl) ?_
  refine e_istore_8 dL_sound_44 rfl (Nat.le_of_ble_eq_true rfl) rfl ?_
  refine e_aload_0 dL_sound_46 rfl ?_
  refine e_bipush (v := nI 11) dL_sound_47 rfl bd_11 ?_
  refine e_iload_7 dL_sound_49 rfl ?_
  refine e_iconst (v := nI 0) dL_sound_51 rfl ic_0 ?_
  refine e_iconst (v := nI 0) dL_sound_52 rfl ic_0 ?_
  refine e_callW dL_sound_53 rfl csL_117 (q_inForce hf h hs hp) rfl rfl ⟨Nat.le_of_ble_eq_true rfl, Nat.le_of_ble_eq_true rfl⟩ ⟨(by show _ ≤ 200; omega), (by show _ ≤ 1200; omega)⟩ rfl rfl (Nat.le_of_ble_eq_true rfl) ?_
  refine e_istore_9 dL_sound_56 rfl (Nat.le_of_ble_eq_true rfl) rfl ?_
  refine e_aload_0 dL_sound_58 rfl ?_
  refine e_bipush (v := nI 23) dL_sound_59 rfl bd_23 ?_
  refine e_iload_7 dL_sound_61 rfl ?_
  refine e_iconst (v := nI 0) dL_sound_63 rfl ic_0 ?_
  refine e_iconst (v := nI 0) dL_sound_64 rfl ic_0 ?_
  refine e_callW dL_sound_65 rfl csL_117 hmS rfl rfl ⟨Nat.le_of_ble_eq_true rfl, Nat.le_of_ble_eq_true rfl⟩ ⟨(by show _ ≤ 200; omega), (by show _ ≤ 1200; omega)⟩ rfl rfl (Nat.le_of_ble_eq_true rfl) ?_
  refine e_istore_10 dL_sound_68 rfl (Nat.le_of_ble_eq_true rfl) rfl ?_
  refine e_iload_2 dL_sound_70 rfl ?_
  refine e_iload_8 dL_sound_71 rfl ?_
  refine e_iadd dL_sound_73 rfl ?_
  refine e_topi (nI (sumN p (deN M od) + deN M od p)) (nI_add _ _) ?_
  refine e_istore_2 dL_sound_74 rfl (Nat.le_of_ble_eq_true rfl) rfl ?_
  refine e_iload_4 dL_sound_75 rfl ?_
  refine e_iload_9 dL_sound_77 rfl ?_
  refine e_iadd dL_sound_79 rfl ?_
  refine e_topi (nI (cntN (inF M od) p + (inF M od p).toNat)) (nI_add _ _) ?_
  refine e_istore_4 dL_sound_80 rfl (Nat.le_of_ble_eq_true rfl) rfl ?_
  refine e_iload_5 dL_sound_82 rfl ?_
  refine e_aload_0 dL_sound_84 rfl ?_
  refine e_bipush (v := nI 15) dL_sound_85 rfl bd_15 ?_
  refine e_iload_7 dL_sound_87 rfl ?_
  refine e_iconst (v := nI 0) dL_sound_89 rfl ic_0 ?_
  refine e_iconst (v := nI 0) dL_sound_90 rfl ic_0 ?_
  refine e_callW dL_sound_91 rfl csL_117 (q_hits hf h hs hp) rfl rfl ⟨Nat.le_of_ble_eq_true rfl, Nat.le_of_ble_eq_true rfl⟩ ⟨(by show _ ≤ 200; omega), (by show _ ≤ 1200; omega)⟩ rfl rfl (Nat.le_of_ble_eq_true rfl) ?_
  refine e_iadd dL_sound_94 rfl ?_
  refine e_istore_5 dL_sound_95 rfl (Nat.le_of_ble_eq_true rfl) rfl ?_
  refine e_iload_3 dL_sound_97 rfl ?_
  refine e_aload_0 dL_sound_98 rfl ?_
  refine e_bipush (v := nI 22) dL_sound_99 rfl bd_22 ?_
  refine e_iload_7 dL_sound_101 rfl ?_
  refine e_iconst (v := nI 0) dL_sound_103 rfl ic_0 ?_
  refine e_iconst (v := nI 0) dL_sound_104 rfl ic_0 ?_
  refine e_callW dL_sound_105 rfl csL_117 (q_shadowed hf h hs hp) rfl rfl ⟨Nat.le_of_ble_eq_true rfl, Nat.le_of_ble_eq_true rfl⟩ ⟨(by show _ ≤ 200; omega), (by show _ ≤ 1200; omega)⟩ rfl rfl (Nat.le_of_ble_eq_true rfl) ?_
  refine e_iadd dL_sound_108 rfl ?_
  refine e_topi (nI (cntN (shF M od) p + (shF M od p).toNat)) (nI_add _ _) ?_
  refine e_istore_3 dL_sound_109 rfl (Nat.le_of_ble_eq_true rfl) rfl ?_
  refine e_wid (u' := u + 7) (w' := 6 * (u + 7)) (by omega) (by omega) ?_
  refine so_a hf h hs hp (by omega) ?_
  refine so_b hf h (hs.tr (tdM_SX od rc (-1) (nI 0) N)) hp ?_
  refine so_c hf h (hs.tr (tdM_SX od rc (-1) (nI 0) N)) hp (by omega) ?_
  refine so_d hf h (hs.tr (tdM_SX od rc (-1) (nI 0) N)) hp hg hm (by omega) ?_
  refine so_e hf h (hs.tr (tdM_SX od rc (-1) (nI 0) N)) hp hH (by omega) ?_
  refine so_f hf h (hs.tr (tdM_SX od rc (-1) (nI 0) N)) hp hg hm (by omega) ?_
  refine e_iinc_6 (v := nI (p + 1)) dL_sound_278 rfl (Nat.le_of_ble_eq_true rfl) rfl (nI_1 p) ?_
  refine e_goto (tgt := 13) dL_sound_281 (by decide) ?_
  refine e_weak (weak_c (weak_c (weak_c (weak_c (weak_c (weak_c (weak_c (weak_n (weak_n (weak_n (weak_n weak_nil))))))))))) ?_
  rw [cntN_s, cntN_s] at kk
  exact e_wid (by omega) (by omega) kk
theorem so_dec {l : Launch} {M N : pmM} {od : Nat → Nat} {oc rc td g : Nat} {rg : Nat → Nat} {H : Nat} {G : pmG} (hf : l.stackTraces = false) (h : IV M od oc rc td g rg H) (hs : SX M N) {k : Nat} (hk : k < 12) {gg s2 s3 s4 s5 : Int32} {u : Nat} (hg : g < 2 ^ 30) (hu : u + 5 ≤ 200) (kk : Ev l kL_sound G (rmd 16 200 1200) 64 (u + 5) (6 * (u + 5)) 287 [some (.ref 0), some (.int gg), some (.int s2), some (.int s3), some (.int s4), some (.int s5), some (.int (nI (k + 1))), none, none, none, none] [] N) : Ev l kL_sound G (rmd 16 200 1200) 64 (u) (6 * (u)) 287 [some (.ref 0), some (.int gg), some (.int s2), some (.int s3), some (.int s4), some (.int s5), some (.int (nI (k))), none, none, none, none] [] N := by
  have h8 := h.rc8
  refine e_iload_6 dL_sound_287 rfl ?_
  refine e_bipush (v := nI 12) dL_sound_289 rfl bd_12 ?_
  refine e_nc_ge_f dL_sound_291 rfl ⟨380, by decide⟩ (by omega) (by omega) hk ?_
  refine e_aload_0 dL_sound_294 rfl ?_
  refine e_bipush (v := nI 14) dL_sound_295 rfl bd_14 ?_
  refine e_iload_1 dL_sound_297 rfl ?_
  refine e_iload_6 dL_sound_298 rfl ?_
  refine e_iconst (v := nI 3) dL_sound_300 rfl ic_3 ?_
  refine e_iadd dL_sound_301 rfl ?_
  refine e_topi (nI (k + 3)) (nI_add _ _) ?_
  refine e_imul dL_sound_302 rfl ?_
  refine e_bipush (v := nI 32) dL_sound_303 rfl bc_32 ?_
  refine e_callS dL_sound_305 rfl csL_129 (s_low (v := gg * nI (k + 3)) (k := 32) hf (by decide) (by decide)) rfl rfl ⟨Nat.le_of_ble_eq_true rfl, Nat.le_of_ble_eq_true rfl⟩ ⟨(by show _ ≤ 200; omega), (by show _ ≤ 1200; omega)⟩ rfl rfl (Nat.le_of_ble_eq_true rfl) ?_
  refine e_iload_1 dL_sound_308 rfl ?_
  refine e_iload_6 dL_sound_309 rfl ?_
  refine e_iconst (v := nI 3) dL_sound_311 rfl ic_3 ?_
  refine e_iadd dL_sound_312 rfl ?_
  refine e_topi (nI (k + 3)) (nI_add _ _) ?_
  refine e_imul dL_sound_313 rfl ?_
  refine e_bipush (v := nI 7) dL_sound_314 rfl bc_7 ?_
  refine e_ishr dL_sound_316 rfl ?_
  refine e_bipush (v := nI 32) dL_sound_317 rfl bc_32 ?_
  refine e_callS dL_sound_319 rfl csL_129 (s_low (v := (gg * nI (k + 3)) >>> (nI 7 &&& 31)) (k := 32) hf (by decide) (by decide)) rfl rfl ⟨Nat.le_of_ble_eq_true rfl, Nat.le_of_ble_eq_true rfl⟩ ⟨(by show _ ≤ 200; omega), (by show _ ≤ 1200; omega)⟩ rfl rfl (Nat.le_of_ble_eq_true rfl) ?_
  refine e_iload_1 dL_sound_322 rfl ?_
  refine e_iload_6 dL_sound_323 rfl ?_
  refine e_iconst (v := nI 3) dL_sound_325 rfl ic_3 ?_
  refine e_iadd dL_sound_326 rfl ?_
  refine e_topi (nI (k + 3)) (nI_add _ _) ?_
  refine e_imul dL_sound_327 rfl ?_
  refine e_bipush (v := nI 13) dL_sound_328 rfl bd_13 ?_
  refine e_ishr dL_sound_330 rfl ?_
  refine e_bipush (v := nI 32) dL_sound_331 rfl bc_32 ?_
  refine e_callS dL_sound_333 rfl csL_129 (s_low (v := (gg * nI (k + 3)) >>> (nI 13 &&& 31)) (k := 32) hf (by decide) (by decide)) rfl rfl ⟨Nat.le_of_ble_eq_true rfl, Nat.le_of_ble_eq_true rfl⟩ ⟨(by show _ ≤ 200; omega), (by show _ ≤ 1200; omega)⟩ rfl rfl (Nat.le_of_ble_eq_true rfl) ?_
  obtain ⟨x, hx, hxS⟩ := q_decider hf h hs (lowN_lt (gg * nI (k + 3)) (show 0 < 32 by decide)) (lowN_lt ((gg * nI (k + 3)) >>> (nI 7 &&& 31)) (show 0 < 32 by decide)) (lowN_lt ((gg * nI (k + 3)) >>> (nI 13 &&& 31)) (show 0 < 32 by decide))
  refine e_callW dL_sound_336 rfl csL_117 hxS rfl rfl ⟨Nat.le_of_ble_eq_true rfl, Nat.le_of_ble_eq_true rfl⟩ ⟨(by show _ ≤ 200; omega), (by show _ ≤ 1200; omega)⟩ rfl rfl (Nat.le_of_ble_eq_true rfl) ?_
  refine e_istore_7 dL_sound_339 rfl (Nat.le_of_ble_eq_true rfl) rfl ?_
  rcases hx with rfl | ⟨p, hp, rfl, hd⟩
  · refine e_iload_7 dL_sound_341 rfl ?_
    refine e_if_lt_t (tgt := 374) dL_sound_343 (by decide) (by decide) ?_
    refine e_iinc_6 (v := nI (k + 1)) dL_sound_374 rfl (Nat.le_of_ble_eq_true rfl) rfl (nI_1 k) ?_
    refine e_goto (tgt := 287) dL_sound_377 (by decide) ?_
    refine e_weak (weak_c (weak_c (weak_c (weak_c (weak_c (weak_c (weak_c (weak_n weak_nil)))))))) ?_
    exact e_wid (by omega) (by omega) kk
  · obtain ⟨⟨n, n1, n2⟩, -⟩ := h.rule p hp
    have b1 := deN_le M od p
    refine e_iload_7 dL_sound_341 rfl ?_
    refine e_if_lt_f dL_sound_343 rfl ⟨374, by decide⟩ (by rw [n2]; exact nI_nn (by omega)) ?_
    refine e_aload_0 dL_sound_346 rfl ?_
    refine e_bipush (v := nI 20) dL_sound_347 rfl bd_20 ?_
    refine e_iload_7 dL_sound_349 rfl ?_
    refine e_iconst (v := nI 0) dL_sound_351 rfl ic_0 ?_
    refine e_iconst (v := nI 0) dL_sound_352 rfl ic_0 ?_
    refine e_callW dL_sound_353 rfl csL_117 (q_decided hf h hs hp) rfl rfl ⟨Nat.le_of_ble_eq_true rfl, Nat.le_of_ble_eq_true rfl⟩ ⟨(by show _ ≤ 200; omega), (by show _ ≤ 1200; omega)⟩ rfl rfl (Nat.le_of_ble_eq_true rfl) ?_
    refine e_if_le_f dL_sound_356 rfl ⟨372, by decide⟩ (fun z => hd (by have := (nI_leI (b := 0) (by omega) (by decide)).mp z; omega)) ?_
    refine e_aload_0 dL_sound_359 rfl ?_
    refine e_bipush (v := nI 22) dL_sound_360 rfl bd_22 ?_
    refine e_iload_7 dL_sound_362 rfl ?_
    refine e_iconst (v := nI 0) dL_sound_364 rfl ic_0 ?_
    refine e_iconst (v := nI 0) dL_sound_365 rfl ic_0 ?_
    refine e_callW dL_sound_366 rfl csL_117 (q_shadowed hf h hs hp) rfl rfl ⟨Nat.le_of_ble_eq_true rfl, Nat.le_of_ble_eq_true rfl⟩ ⟨(by show _ ≤ 200; omega), (by show _ ≤ 1200; omega)⟩ rfl rfl (Nat.le_of_ble_eq_true rfl) ?_
    refine e_if_eq_t (tgt := 374) dL_sound_369 (by decide) (by rw [sh_nI M od (show p ≤ 8 by omega), decide_eq_false hd, Bool.and_false]; rfl) ?_
    refine e_iinc_6 (v := nI (k + 1)) dL_sound_374 rfl (Nat.le_of_ble_eq_true rfl) rfl (nI_1 k) ?_
    refine e_goto (tgt := 287) dL_sound_377 (by decide) ?_
    refine e_weak (weak_c (weak_c (weak_c (weak_c (weak_c (weak_c (weak_c (weak_n weak_nil)))))))) ?_
    exact e_wid (by omega) (by omega) kk
theorem s_sound {l : Launch} (hf : l.stackTraces = false) {M : pmM} {od : Nat → Nat} {oc rc td g : Nat} {rg : Nat → Nat} {H : Nat} (h : IV M od oc rc td g rg H) (hg : g < 2 ^ 30) (hH : H < 2 ^ 30) {gg : Int32} : Sp l kL_sound 64 16 200 1200 [.ref 0, .int gg] M (.inl (some (.int (nI 1)))) (nnM od rc M rc) := by
  have h8 := h.rc8
  refine sp_of hf (by decide +kernel) (Nat.le_of_ble_eq_true rfl) (by intro v hv; simp at hv; rcases hv with rfl | rfl <;> rfl) rfl ?_
  refine e_iconst (v := nI 0) dL_sound_0 rfl ic_0 ?_
  refine e_istore_2 dL_sound_1 rfl (Nat.le_of_ble_eq_true rfl) rfl ?_
  refine e_iconst (v := nI 0) dL_sound_2 rfl ic_0 ?_
  refine e_istore_3 dL_sound_3 rfl (Nat.le_of_ble_eq_true rfl) rfl ?_
  refine e_iconst (v := nI 0) dL_sound_4 rfl ic_0 ?_
  refine e_istore_4 dL_sound_5 rfl (Nat.le_of_ble_eq_true rfl) rfl ?_
  refine e_iconst (v := nI 0) dL_sound_7 rfl ic_0 ?_
  refine e_istore_5 dL_sound_8 rfl (Nat.le_of_ble_eq_true rfl) rfl ?_
  refine e_iconst (v := nI 0) dL_sound_10 rfl ic_0 ?_
  refine e_istore_6 dL_sound_11 rfl (Nat.le_of_ble_eq_true rfl) rfl ?_
  refine loop_up (P := fun i => Ev l kL_sound (gM 64 200 1200 (.inl (some (.int (nI 1)))) (nnM od rc M rc)) (rmd 16 200 1200) 64 (17 * i) (6 * (17 * i)) 13 [some (.ref 0), some (.int gg), some (.int (nI (sumN (i) (deN M od)))), some (.int (nI (cntN (shF M od) (i)))), some (.int (nI (cntN (inF M od) (i)))), some (.int (suS M od (i))), some (.int (nI (i))), none, none, none, none] [] (nnM od rc M i)) ?_ (fun i hi ih => so_one hf h (nn_sx od rc M i) hi hg hH (by omega) (by rw [nn_s] at ih; exact ih)) 0 (Nat.zero_le rc)
  have hs := nn_sx od rc M rc
  have h' := h.sx hs
  have hsum := de_sum_le M od rc
  have hac := ac_le_sum M od rc
  have hcn := cntN_le (inF M od) rc
  have hsn := cntN_le (shF M od) rc
  refine e_iload_6 dL_sound_13 rfl ?_
  refine e_aload_0 dL_sound_15 rfl ?_
  refine e_callV dL_sound_16 rfl csL_123 (s_rules hf h'.hrc h8) rfl rfl ps_0 (by decide) (by decide) ⟨Nat.le_of_ble_eq_true rfl, Nat.le_of_ble_eq_true rfl⟩ ⟨(by show _ ≤ 200; omega), (by show _ ≤ 1200; omega)⟩ rfl rfl (Nat.le_of_ble_eq_true rfl) ?_
  refine e_nc_ge_t (tgt := 284) dL_sound_19 (by decide) (by omega) (by omega) (Nat.le_refl rc) ?_
  refine e_iconst (v := nI 0) dL_sound_284 rfl ic_0 ?_
  refine e_istore_6 dL_sound_285 rfl (Nat.le_of_ble_eq_true rfl) rfl ?_
  refine loop_up (P := fun k => Ev l kL_sound (gM 64 200 1200 (.inl (some (.int (nI 1)))) (nnM od rc M rc)) (rmd 16 200 1200) 64 (17 * rc + 5 * k) (6 * (17 * rc + 5 * k)) 287 [some (.ref 0), some (.int gg), some (.int (nI (sumN rc (deN M od)))), some (.int (nI (cntN (shF M od) rc))), some (.int (nI (cntN (inF M od) rc))), some (.int (suS M od rc)), some (.int (nI k)), none, none, none, none] [] (nnM od rc M rc)) ?_ (fun k hk ih => so_dec hf h hs hk hg (by omega) ih) 0 (Nat.zero_le 12)
  refine e_iload_6 dL_sound_287 rfl ?_
  refine e_bipush (v := nI 12) dL_sound_289 rfl bd_12 ?_
  refine e_nc_ge_t (tgt := 380) dL_sound_291 (by decide) (by omega) (by omega) (Nat.le_refl 12) ?_
  refine e_iload_2 dL_sound_380 rfl ?_
  refine e_if_lt_f dL_sound_381 rfl ⟨445, by decide⟩ (nI_nn (by omega)) ?_
  refine e_iload_2 dL_sound_384 rfl ?_
  refine e_ldc dL_sound_385 rfl kcL_132 ?_
  refine e_ic_gt_f dL_sound_387 rfl ⟨445, by decide⟩ (fun z => by have := (nI_ltI (a := 32768) (by decide) (show sumN rc (deN M od) < 2 ^ 31 by omega)).mp z; omega) ?_
  refine e_aload_0 dL_sound_390 rfl ?_
  refine e_callV dL_sound_391 rfl csL_133 (by have k := s_accepted hf h'.mr h'.od8 h'.hrc h8; rw [ac_nI _ _ h8, acN_sx h hs] at k; exact k : Sp l kX3_accepted 64 13 0 0 [.ref 0] (nnM od rc M rc) (.inl (some (.int (nI (acN M od rc))))) (nnM od rc M rc)) rfl rfl ps_0 (by decide) (by decide) ⟨Nat.le_of_ble_eq_true rfl, Nat.le_of_ble_eq_true rfl⟩ ⟨(by show _ ≤ 200; omega), (by show _ ≤ 1200; omega)⟩ rfl rfl (Nat.le_of_ble_eq_true rfl) ?_
  refine e_iload_2 dL_sound_394 rfl ?_
  refine e_nc_gt_f dL_sound_395 rfl ⟨445, by decide⟩ (by omega) (by omega) hac ?_
  have kB : ∀ u, u + 1 ≤ 200 → Ev l kL_sound (gM 64 200 1200 (.inl (some (.int (nI 1)))) (nnM od rc M rc)) (rmd 16 200 1200) 64 u (6 * u) 417 [some (.ref 0), some (.int gg), some (.int (nI (sumN rc (deN M od)))), some (.int (nI (cntN (shF M od) rc))), some (.int (nI (cntN (inF M od) rc))), some (.int (suS M od rc)), some (.int (nI 12)), none, none, none, none] [] (nnM od rc M rc) := fun u hu => by
    refine e_aload_0 dL_sound_417 rfl ?_
    refine e_callV dL_sound_418 rfl csL_123 (s_rules hf h'.hrc h8) rfl rfl ps_0 (by decide) (by decide) ⟨Nat.le_of_ble_eq_true rfl, Nat.le_of_ble_eq_true rfl⟩ ⟨(by show _ ≤ 200; omega), (by show _ ≤ 1200; omega)⟩ rfl rfl (Nat.le_of_ble_eq_true rfl) ?_
    by_cases q : rc = 0
    · refine e_if_eq_t (tgt := 441) dL_sound_421 (by decide) (by rw [q]; rfl) ?_
      refine e_iconst (v := nI 1) dL_sound_441 rfl ic_1 ?_
      refine e_goto (tgt := 446) dL_sound_442 (by decide) ?_
      exact e_iret dL_sound_446 rfl rfl (by omega) (by omega) rfl rfl
    · refine e_if_eq_f dL_sound_421 rfl ⟨441, by decide⟩ (nI_ne (by omega) q) ?_
      refine e_aload_0 dL_sound_424 rfl ?_
      refine e_callV dL_sound_425 rfl csL_140 (by have k := s_meanHits_ok hf h'.mr h'.od8 h'.hrc h8 q; rw [su_sx h hs rc (Nat.le_refl _)] at k; exact k : Sp l kX3_meanHits 64 1 1 6 [.ref 0] (nnM od rc M rc) (.inl (some (.double (FP.ddiv (FP.i2d (suS M od rc)) (FP.i2d (nI rc)))))) (nnM od rc M rc)) rfl rfl ps_0 (by decide) (by decide) ⟨Nat.le_of_ble_eq_true rfl, Nat.le_of_ble_eq_true rfl⟩ ⟨(by show _ ≤ 200; omega), (by show _ ≤ 1200; omega)⟩ rfl rfl (Nat.le_of_ble_eq_true rfl) ?_
      refine e_iload_5 dL_sound_428 rfl ?_
      refine e_i2d dL_sound_430 rfl ?_
      refine e_aload_0 dL_sound_431 rfl ?_
      refine e_callV dL_sound_432 rfl csL_123 (s_rules hf h'.hrc h8) rfl rfl ps_0 (by decide) (by decide) ⟨Nat.le_of_ble_eq_true rfl, Nat.le_of_ble_eq_true rfl⟩ ⟨(by show _ ≤ 200; omega), (by show _ ≤ 1200; omega)⟩ rfl rfl (Nat.le_of_ble_eq_true rfl) ?_
      refine e_i2d dL_sound_435 rfl ?_
      have nz := fl_div64 (suS M od rc) (nI_ne (show rc < 2 ^ 31 by omega) q)
      refine e_ddiv dL_sound_436 rfl nz ?_
      refine e_dcmp dL_sound_437 rfl ?_
      refine e_topi (nI 0) (by rw [fl_self nz]; rfl) ?_
      refine e_if_ne_f dL_sound_438 rfl ⟨445, by decide⟩ rfl ?_
      refine e_iconst (v := nI 1) dL_sound_441 rfl ic_1 ?_
      refine e_goto (tgt := 446) dL_sound_442 (by decide) ?_
      exact e_iret dL_sound_446 rfl rfl (by omega) (by omega) rfl rfl
  by_cases q : cntN (inF M od) rc = 0
  · refine e_iload_4 dL_sound_398 rfl ?_
    refine e_if_eq_t (tgt := 417) dL_sound_400 (by decide) (by rw [q]; rfl) ?_
    exact e_wid (u' := 17 * rc + 60) (w' := 6 * (17 * rc + 60)) (by omega) (by omega) (kB _ (by omega))
  · have e1 : cntN (inF (nnM od rc M rc) od) rc = cntN (inF M od) rc := cntN_congr rc (fun p hp => hs.inF (h.od8 p (by omega)))
    have e2 : cntN (shF (nnM od rc M rc) od) rc = cntN (shF M od) rc := cntN_congr rc (fun p hp => sh_sx h hs hp)
    refine e_iload_4 dL_sound_398 rfl ?_
    refine e_if_eq_f dL_sound_400 rfl ⟨417, by decide⟩ (nI_ne (by omega) q) ?_
    refine e_aload_0 dL_sound_403 rfl ?_
    refine e_callV dL_sound_404 rfl csL_136 (by have k := s_shadowedShare_ok hf h'.mr h'.od8 h'.hrc h8 (by rw [pcn_if _ h8, e1]; exact q); rw [pcn_if _ h8, e1, e2] at k; exact k : Sp l kX3_shadowedShare 64 14 1 6 [.ref 0] (nnM od rc M rc) (.inl (some (.float (FP.fdiv (FP.i2f (nI (cntN (shF M od) rc))) (FP.i2f (nI (cntN (inF M od) rc))))))) (nnM od rc M rc)) rfl rfl ps_0 (by decide) (by decide) ⟨Nat.le_of_ble_eq_true rfl, Nat.le_of_ble_eq_true rfl⟩ ⟨(by show _ ≤ 200; omega), (by show _ ≤ 1200; omega)⟩ rfl rfl (Nat.le_of_ble_eq_true rfl) ?_
    refine e_iload_3 dL_sound_407 rfl ?_
    refine e_i2f dL_sound_408 rfl ?_
    refine e_iload_4 dL_sound_409 rfl ?_
    refine e_i2f dL_sound_411 rfl ?_
    have nz := fl_div32 (nI (cntN (shF M od) rc)) (nI_ne (show cntN (inF M od) rc < 2 ^ 31 by omega) q)
    refine e_fdiv dL_sound_412 rfl nz ?_
    refine e_fcmp dL_sound_413 rfl ?_
    refine e_topi (nI 0) (by rw [fl_self32 nz]; rfl) ?_
    refine e_if_ne_f dL_sound_414 rfl ⟨445, by decide⟩ rfl ?_
    exact e_wid (u' := 17 * rc + 61) (w' := 6 * (17 * rc + 61)) (by omega) (by omega) (kB _ (by omega))
