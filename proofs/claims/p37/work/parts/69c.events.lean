/-! ===== the law's events, sort by sort ===== -/
theorem abs_le {a b c : Nat} (ha : a ≤ 32768) (hb : b ≤ 32768) (hc : c ≤ 32768) (h1 : a ≤ b + c) (h2 : b ≤ a + c) : (if 0 ≤ nI a - nI b then nI a - nI b else 0 - (nI a - nI b)) ≤ nI c := by
  by_cases q : b ≤ a
  · rw [pk_sub q, if_pos (show (0 : Int32) ≤ nI (a - b) from (nI_leI (a := 0) (by decide) (by omega)).mpr (Nat.zero_le _))]
    exact (nI_leI (by omega) (by omega)).mpr (by omega)
  · have hn : nI a - nI b < 0 := pk_sneg (by omega) (by omega)
    rw [if_neg (fun z => Int32.lt_irrefl (Int32.lt_of_lt_of_le hn z))]
    have e : 0 - (nI a - nI b) = nI (b - a) := by
      rw [← pk_sub (show a ≤ b by omega)]
      apply Int32.toInt_inj.mp
      rw [Int32.toInt_sub, pk_sub_toInt (by omega) (by omega), pk_sub_toInt (by omega) (by omega), show (0 : Int32).toInt = 0 from by decide]
      rw [Int.bmod_eq_of_le (by omega) (by omega)]
      omega
    rw [e]
    exact (nI_leI (by omega) (by omega)).mpr (by omega)
theorem ob_arg {x oc : Nat} (h : x ≤ oc) : obOk oc (nI x - nI 1) := by
  by_cases q : x = 0
  · subst q; exact Or.inl nI_0s
  · exact Or.inr ⟨x - 1, by omega, pk_sub (by omega)⟩
theorem tri1 (P Q : Nat → Nat → Nat → Bool) : cn3 P ≤ cn3 Q + cn3 (fun a b c => xor (P a b c) (Q a b c)) ∧ cn3 Q ≤ cn3 P + cn3 (fun a b c => xor (P a b c) (Q a b c)) := ⟨cn3_tri P Q, by
  have := cn3_tri Q P
  rwa [cn3_congr (P := fun a b c => xor (Q a b c) (P a b c)) (Q := fun a b c => xor (P a b c) (Q a b c)) (fun a b c _ _ _ => Bool.xor_comm _ _)] at this⟩
theorem low_in {oc n : Nat} {x : Int32} (h : x = nI n) (hn : n < oc) : x = nI n ∧ n < oc := ⟨h, hn⟩
theorem ev_addObject {l : Launch} (hf : l.stackTraces = false) {nm : String} {hl : List (Nat × Nat × Nat × Nat)} {b Ln : Nat} {xs : Nat → Int32} {M : pmM} {od : Nat → Nat} {oc rc td g : Nat} {rg : Nat → Nat} {H : Nat} (h : IV M od oc rc td g rg H) {e ob ru po u : Nat} {gg hh ss : Int32} {z : Prop} (hg : g < 2 ^ 20) (hH : H < 2 ^ 20) (hu : u + 650 ≤ 666358)  (kk : ∀ {N : pmM} {od' : Nat → Nat} {oc' rc' td' g' : Nat} {rg' : Nat → Nat} {H' : Nat} (told : Int32), IV N od' oc' rc' td' g' rg' H' → oc ≤ oc' → (z → oc < 8 → oc' = oc + 1) → g' ≤ g + 1 → H' ≤ H + 1 → (told < 0 → oc' = oc ∧ svS N od' oc' rc' td' rg' = svS M od oc rc td rg) → Ev l (kLaw nm hl) (gS b Ln xs) room_1 64 (u + 40) (6 * (u + 40)) 921 [some (.ref 1000), some (.ref 0), some (.int (nI oc')), some (.int (nI g')), some (.int (nI e)), none, some (.int hh), none, none, none, none, some (.long (svS M od oc rc td rg)), none, none, some (.int told), none, none, none] [] N) : Ev l (kLaw nm hl) (gS b Ln xs) room_1 64 u (6 * u) 218 [some (.ref 1000), some (.ref 0), some (.int (nI oc)), some (.int (nI g)), some (.int (nI e)), some (.int gg), some (.int hh), some (.int ss), some (.int (nI ob)), some (.int (nI ru)), some (.int (nI po)), some (.long (svS M od oc rc td rg)), none, some (.int (nI (acN M od rc))), some (.int (nI 0)), none, none, none] [] M := by
  have h8 := h.oc8
  have hr8 := h.rc8
  have ht9 := h.td9
  have hac := acN_le M od rc
  by_cases q : oc < 8
  · refine e_aload_1 dL_law_218 rfl ?_
    refine e_iconst (v := nI 0) dL_law_219 rfl ic_0 ?_
    refine e_iconst (v := nI 0) dL_law_220 rfl ic_0 ?_
    refine e_iconst (v := nI 0) dL_law_221 rfl ic_0 ?_
    refine e_iconst (v := nI 0) dL_law_222 rfl ic_0 ?_
    refine e_callW dL_law_223 rfl csL_117 (k_addObject_ok hf h q) rfl rfl ⟨Nat.le_of_ble_eq_true rfl, Nat.le_of_ble_eq_true rfl⟩ ⟨(by show _ ≤ 666358; omega), (by show _ ≤ 7096541; omega)⟩ rfl rfl (Nat.le_of_ble_eq_true rfl) ?_
    refine e_istore_14 dL_law_226 rfl (Nat.le_of_ble_eq_true rfl) rfl ?_
    refine e_iload_2 dL_law_228 rfl ?_
    refine e_iload_14 dL_law_229 rfl ?_
    refine e_if_lt_f dL_law_231 rfl ⟨238, by decide⟩ (nI_nn (by omega)) ?_
    refine e_iconst (v := nI 1) dL_law_234 rfl ic_1 ?_
    refine e_goto (tgt := 239) dL_law_235 (by decide) ?_
    refine e_iadd dL_law_239 rfl ?_
    refine e_topi (nI (oc + 1)) (nI_add _ _) ?_
    refine e_istore_2 dL_law_240 rfl (Nat.le_of_ble_eq_true rfl) rfl ?_
    refine e_goto (tgt := 921) dL_law_241 (by decide) ?_
    refine e_weak (weak_c (weak_c (weak_c (weak_c (weak_c (weak_n (weak_c (weak_n (weak_n (weak_n (weak_n (weak_c (weak_c (weak_n (weak_c (weak_n (weak_n (weak_n weak_nil)))))))))))))))))) ?_
    exact e_wid (by omega) (by omega) (kk _ (h.addObject q) (Nat.le_succ _) (fun _ _ => rfl) (Nat.le_succ _) (Nat.le_succ _) (fun q => absurd q (nI_nn (by omega))))
  · refine e_aload_1 dL_law_218 rfl ?_
    refine e_iconst (v := nI 0) dL_law_219 rfl ic_0 ?_
    refine e_iconst (v := nI 0) dL_law_220 rfl ic_0 ?_
    refine e_iconst (v := nI 0) dL_law_221 rfl ic_0 ?_
    refine e_iconst (v := nI 0) dL_law_222 rfl ic_0 ?_
    refine e_callW dL_law_223 rfl csL_117 (k_addObject_no hf h q) rfl rfl ⟨Nat.le_of_ble_eq_true rfl, Nat.le_of_ble_eq_true rfl⟩ ⟨(by show _ ≤ 666358; omega), (by show _ ≤ 7096541; omega)⟩ rfl rfl (Nat.le_of_ble_eq_true rfl) ?_
    refine e_istore_14 dL_law_226 rfl (Nat.le_of_ble_eq_true rfl) rfl ?_
    refine e_iload_2 dL_law_228 rfl ?_
    refine e_iload_14 dL_law_229 rfl ?_
    refine e_if_lt_t (tgt := 238) dL_law_231 (by decide) (by decide) ?_
    refine e_iconst (v := nI 0) dL_law_238 rfl ic_0 ?_
    refine e_iadd dL_law_239 rfl ?_
    refine e_topi (nI oc) (by rw [nI_add, Nat.add_zero]) ?_
    refine e_istore_2 dL_law_240 rfl (Nat.le_of_ble_eq_true rfl) rfl ?_
    refine e_goto (tgt := 921) dL_law_241 (by decide) ?_
    refine e_weak (weak_c (weak_c (weak_c (weak_c (weak_c (weak_n (weak_c (weak_n (weak_n (weak_n (weak_n (weak_c (weak_c (weak_n (weak_c (weak_n (weak_n (weak_n weak_nil)))))))))))))))))) ?_
    exact e_wid (by omega) (by omega) (kk _ h (Nat.le_refl _) (fun _ hq => absurd hq q) (Nat.le_succ _) (Nat.le_succ _) (fun _ => ⟨rfl, rfl⟩))
theorem ev_addRange {l : Launch} (hf : l.stackTraces = false) {nm : String} {hl : List (Nat × Nat × Nat × Nat)} {b Ln : Nat} {xs : Nat → Int32} {M : pmM} {od : Nat → Nat} {oc rc td g : Nat} {rg : Nat → Nat} {H : Nat} (h : IV M od oc rc td g rg H) {e ob ru po u : Nat} {gg hh ss : Int32} {z : Prop} (hg : g < 2 ^ 20) (hH : H < 2 ^ 20) (hu : u + 650 ≤ 666358) (ho : ob < oc) (hz : ¬ z) (kk : ∀ {N : pmM} {od' : Nat → Nat} {oc' rc' td' g' : Nat} {rg' : Nat → Nat} {H' : Nat} (told : Int32), IV N od' oc' rc' td' g' rg' H' → oc ≤ oc' → (z → oc < 8 → oc' = oc + 1) → g' ≤ g + 1 → H' ≤ H + 1 → (told < 0 → oc' = oc ∧ svS N od' oc' rc' td' rg' = svS M od oc rc td rg) → Ev l (kLaw nm hl) (gS b Ln xs) room_1 64 (u + 40) (6 * (u + 40)) 921 [some (.ref 1000), some (.ref 0), some (.int (nI oc')), some (.int (nI g')), some (.int (nI e)), none, some (.int hh), none, none, none, none, some (.long (svS M od oc rc td rg)), none, none, some (.int told), none, none, none] [] N) : Ev l (kLaw nm hl) (gS b Ln xs) room_1 64 u (6 * u) 250 [some (.ref 1000), some (.ref 0), some (.int (nI oc)), some (.int (nI g)), some (.int (nI e)), some (.int gg), some (.int hh), some (.int ss), some (.int (nI ob)), some (.int (nI ru)), some (.int (nI po)), some (.long (svS M od oc rc td rg)), none, some (.int (nI (acN M od rc))), some (.int (nI 0)), none, none, none] [] M := by
  have h8 := h.oc8
  have hr8 := h.rc8
  have ht9 := h.td9
  have hac := acN_le M od rc
  have hl32 := lowN_lt hh (show 0 < 32 by decide)
  have hh36 := lowN_lt (hh >>> (nI 5 &&& 31)) (show 0 < 36 by decide)
  refine e_iload_6 dL_law_250 rfl ?_
  refine e_bipush (v := nI 32) dL_law_252 rfl bc_32 ?_
  refine e_callS dL_law_254 rfl csL_129 (s_low (v := hh) (k := 32) hf (by omega) (by omega)) rfl rfl ⟨Nat.le_of_ble_eq_true rfl, Nat.le_of_ble_eq_true rfl⟩ ⟨(by show _ ≤ 666358; omega), (by show _ ≤ 7096541; omega)⟩ rfl rfl (Nat.le_of_ble_eq_true rfl) ?_
  refine e_istore_15 dL_law_257 rfl (Nat.le_of_ble_eq_true rfl) rfl ?_
  refine e_iload_6 dL_law_259 rfl ?_
  refine e_iconst (v := nI 5) dL_law_261 rfl ic_5 ?_
  refine e_ishr dL_law_262 rfl ?_
  refine e_bipush (v := nI 36) dL_law_263 rfl bd_36 ?_
  refine e_callS dL_law_265 rfl csL_129 (s_low (v := hh >>> (nI 5 &&& 31)) (k := 36) hf (by omega) (by omega)) rfl rfl ⟨Nat.le_of_ble_eq_true rfl, Nat.le_of_ble_eq_true rfl⟩ ⟨(by show _ ≤ 666358; omega), (by show _ ≤ 7096541; omega)⟩ rfl rfl (Nat.le_of_ble_eq_true rfl) ?_
  refine e_istore_16 dL_law_268 rfl (Nat.le_of_ble_eq_true rfl) rfl ?_
  generalize lowN hh 32 = a at hl32 ⊢
  generalize lowN (hh >>> (nI 5 &&& 31)) 36 = c at hh36 ⊢
  by_cases q : a ≤ c ∧ c < 32
  · obtain ⟨q1, q2⟩ := q
    have hs : SX M (tdM od rc (nI ob) (rgO a c) M) := tdM_SX od rc (nI ob) (rgO a c) M
    have hT := h.sx hs
    obtain ⟨C, hC⟩ : ∃ C, C = cn3 (fun x y w => xor (dcA M od rc x y w) (dcT M od rc (nI ob) (rgO a c) x y w)) := ⟨_, rfl⟩
    have hC8 : C ≤ 32768 := by rw [hC]; exact cn3_le _
    have e1 : crR M (tdM od rc (nI ob) (rgO a c) M) od rc 9 = nI C := by rw [rg_nI h.hac h.od8 hr8 h.hfo, hC]
    have hch : SpH l kL_call 64 14 4 24 [.ref 0, .int (nI 26), .int (nI ob), .int (nI a), .int (nI c)] M (.inl (some (.int (nI C)))) (tdM od rc (nI ob) (rgO a c) M) := by
      have k := k_chRange_ok hf h ho q1 q2
      rwa [e1] at k
    by_cases q3 : rg ob < 3
    · have hN := hT.addRange (a := a) (b := c) ho q3
      have ed : ∀ x y w, dcA (umM (arM (tdM od rc (nI ob) (rgO a c) M) ob (rg ob) a c) od (rgS rg ob (rg ob + 1)) rc) od rc x y w = dcT M od rc (nI ob) (rgO a c) x y w := fun x y w => by
        rw [ar_dec hT ho q3]
        unfold dcT
        refine dcR_congr rc 0 0 (fun p hp => ?_)
        rw [Nat.zero_add]
        have := h.od8 p (by omega)
        refine ⟨?_, ?_⟩
        · unfold thP
          rw [hs.inF this, thF_congr hs hp this h.hfo (by decide), thF_congr hs hp this h.hfo (by decide), thF_congr hs hp this h.hfo (by decide)]
        · unfold acP
          rw [hs.2 (31 + 3 * od p) 1 (by unfold scr; omega)]
      obtain ⟨t1, t2⟩ := tri1 (dcA M od rc) (dcT M od rc (nI ob) (rgO a c))
      have ea : acN (umM (arM (tdM od rc (nI ob) (rgO a c) M) ob (rg ob) a c) od (rgS rg ob (rg ob + 1)) rc) od rc = cn3 (dcT M od rc (nI ob) (rgO a c)) := cn3_congr (fun x y w _ _ _ => ed x y w)
      rw [← hC] at t1 t2
      have hacc : Sp l kX3_accepted 64 13 0 0 [.ref 0] (umM (arM (tdM od rc (nI ob) (rgO a c) M) ob (rg ob) a c) od (rgS rg ob (rg ob + 1)) rc) (.inl (some (.int (nI (cn3 (dcT M od rc (nI ob) (rgO a c))))))) (umM (arM (tdM od rc (nI ob) (rgO a c) M) ob (rg ob) a c) od (rgS rg ob (rg ob + 1)) rc) := by
        have k := s_accepted hf hN.mr hN.od8 hN.hrc hr8
        rwa [ac_nI _ _ hr8, ea] at k
      have hB : cn3 (dcT M od rc (nI ob) (rgO a c)) ≤ 32768 := cn3_le _
      have t3 : acN M od rc ≤ cn3 (dcT M od rc (nI ob) (rgO a c)) + C := t1
      have t4 : cn3 (dcT M od rc (nI ob) (rgO a c)) ≤ acN M od rc + C := t2
      generalize cn3 (dcT M od rc (nI ob) (rgO a c)) = B at hB hacc t3 t4
      refine e_aload_1 dL_law_270 rfl ?_
      refine e_bipush (v := nI 26) dL_law_271 rfl bd_26 ?_
      refine e_iload_8 dL_law_273 rfl ?_
      refine e_iload_15 dL_law_275 rfl ?_
      refine e_iload_16 dL_law_277 rfl ?_
      refine e_callW dL_law_279 rfl csL_117 hch rfl rfl ⟨Nat.le_of_ble_eq_true rfl, Nat.le_of_ble_eq_true rfl⟩ ⟨(by show _ ≤ 666358; omega), (by show _ ≤ 7096541; omega)⟩ rfl rfl (Nat.le_of_ble_eq_true rfl) ?_
      refine e_istore_17 dL_law_282 rfl (Nat.le_of_ble_eq_true rfl) rfl ?_
      refine e_aload_1 dL_law_284 rfl ?_
      refine e_iconst (v := nI 1) dL_law_285 rfl ic_1 ?_
      refine e_iload_8 dL_law_286 rfl ?_
      refine e_iload_15 dL_law_288 rfl ?_
      refine e_iload_16 dL_law_290 rfl ?_
      refine e_callW dL_law_292 rfl csL_117 (k_addRange_ok hf hT ho q1 q2 q3) rfl rfl ⟨Nat.le_of_ble_eq_true rfl, Nat.le_of_ble_eq_true rfl⟩ ⟨(by show _ ≤ 666358; omega), (by show _ ≤ 7096541; omega)⟩ rfl rfl (Nat.le_of_ble_eq_true rfl) ?_
      refine e_istore_14 dL_law_295 rfl (Nat.le_of_ble_eq_true rfl) rfl ?_
      refine e_iload_17 dL_law_297 rfl ?_
      refine e_if_ge_t (tgt := 306) dL_law_299 (by decide) ((nI_leI (a := 0) (by decide) (by omega)).mpr (Nat.zero_le C)) ?_
      refine e_iconst (v := nI 0) dL_law_306 rfl ic_0 ?_
      refine e_iload_16 dL_law_307 rfl ?_
      refine e_iload_15 dL_law_309 rfl ?_
      refine e_nc_lt_f dL_law_311 rfl ⟨321, by decide⟩ (by omega) (by omega) (by omega) ?_
      refine e_iload_16 dL_law_314 rfl ?_
      refine e_bipush (v := nI 31) dL_law_316 rfl bc_31 ?_
      refine e_nc_le_t (tgt := 325) dL_law_318 (by decide) (by omega) (by omega) (by omega) ?_
      refine e_iconst (v := nI 0) dL_law_325 rfl ic_0 ?_
      refine e_nc_ne_f dL_law_326 rfl ⟨368, by decide⟩ (by omega) (by omega) rfl ?_
      refine e_iload_14 dL_law_329 rfl ?_
      refine e_if_lt_f dL_law_331 rfl ⟨348, by decide⟩ (nI_nn (by have := h.hrg ob (by omega); omega)) ?_
      have kB : Ev l (kLaw nm hl) (gS b Ln xs) room_1 64 (u + 20) (6 * (u + 20)) 348 [some (.ref 1000), some (.ref 0), some (.int (nI oc)), some (.int (nI g)), some (.int (nI e)), some (.int gg), some (.int hh), some (.int ss), some (.int (nI ob)), some (.int (nI ru)), some (.int (nI po)), some (.long (svS M od oc rc td rg)), none, some (.int (nI (acN M od rc))), some (.int (nI (rg ob + 1))), some (.int (nI a)), some (.int (nI c)), some (.int (nI C))] [] (umM (arM (tdM od rc (nI ob) (rgO a c) M) ob (rg ob) a c) od (rgS rg ob (rg ob + 1)) rc) := by
        refine e_iload_14 dL_law_348 rfl ?_
        refine e_if_lt_f dL_law_350 rfl ⟨370, by decide⟩ (nI_nn (by have := h.hrg ob (by omega); omega)) ?_
        refine e_aload_1 dL_law_353 rfl ?_
        refine e_callV dL_law_354 rfl csL_133 hacc rfl rfl ps_0 (by decide) (by decide) ⟨Nat.le_of_ble_eq_true rfl, Nat.le_of_ble_eq_true rfl⟩ ⟨(by show _ ≤ 666358; omega), (by show _ ≤ 7096541; omega)⟩ rfl rfl (Nat.le_of_ble_eq_true rfl) ?_
        refine e_iload_13 dL_law_357 rfl ?_
        refine e_isub dL_law_359 rfl ?_
        refine e_mabs dL_law_360 rfl mabsL_156 ⟨Nat.le_of_ble_eq_true rfl, Nat.le_of_ble_eq_true rfl⟩ ⟨(by show _ ≤ 666358; omega), (by show _ ≤ 7096541; omega)⟩ (Nat.le_of_ble_eq_true rfl) ?_
        refine e_iload_17 dL_law_363 rfl ?_
        refine e_ic_le_t (tgt := 370) dL_law_365 (by decide) (abs_le hB hac hC8 (by omega) (by omega)) ?_
        refine e_goto (tgt := 921) dL_law_370 (by decide) ?_
        refine e_weak (weak_c (weak_c (weak_c (weak_c (weak_c (weak_n (weak_c (weak_n (weak_n (weak_n (weak_n (weak_c (weak_c (weak_n (weak_c (weak_n (weak_n (weak_n weak_nil)))))))))))))))))) ?_
        exact e_wid (by omega) (by omega) (kk _ hN (Nat.le_refl _) (fun q => absurd q hz) (Nat.le_succ _) (Nat.le_succ _) (fun q => absurd q (nI_nn (by have := h.hrg ob (by omega); omega))))
      by_cases q4 : C = 0
      · refine e_iload_17 dL_law_334 rfl ?_
        refine e_if_ne_f dL_law_336 rfl ⟨348, by decide⟩ (by rw [q4]; rfl) ?_
        refine e_aload_1 dL_law_339 rfl ?_
        refine e_callV dL_law_340 rfl csL_133 hacc rfl rfl ps_0 (by decide) (by decide) ⟨Nat.le_of_ble_eq_true rfl, Nat.le_of_ble_eq_true rfl⟩ ⟨(by show _ ≤ 666358; omega), (by show _ ≤ 7096541; omega)⟩ rfl rfl (Nat.le_of_ble_eq_true rfl) ?_
        refine e_iload_13 dL_law_343 rfl ?_
        refine e_ic_ne_f dL_law_345 rfl ⟨368, by decide⟩ (by rw [show B = acN M od rc by omega]) ?_
        exact e_wid (by omega) (by omega) kB
      · refine e_iload_17 dL_law_334 rfl ?_
        refine e_if_ne_t (tgt := 348) dL_law_336 (by decide) (nI_ne (by omega) q4) ?_
        exact e_wid (by omega) (by omega) kB
    · refine e_aload_1 dL_law_270 rfl ?_
      refine e_bipush (v := nI 26) dL_law_271 rfl bd_26 ?_
      refine e_iload_8 dL_law_273 rfl ?_
      refine e_iload_15 dL_law_275 rfl ?_
      refine e_iload_16 dL_law_277 rfl ?_
      refine e_callW dL_law_279 rfl csL_117 hch rfl rfl ⟨Nat.le_of_ble_eq_true rfl, Nat.le_of_ble_eq_true rfl⟩ ⟨(by show _ ≤ 666358; omega), (by show _ ≤ 7096541; omega)⟩ rfl rfl (Nat.le_of_ble_eq_true rfl) ?_
      refine e_istore_17 dL_law_282 rfl (Nat.le_of_ble_eq_true rfl) rfl ?_
      refine e_aload_1 dL_law_284 rfl ?_
      refine e_iconst (v := nI 1) dL_law_285 rfl ic_1 ?_
      refine e_iload_8 dL_law_286 rfl ?_
      refine e_iload_15 dL_law_288 rfl ?_
      refine e_iload_16 dL_law_290 rfl ?_
      refine e_callW dL_law_292 rfl csL_117 (k_addRange_no3 hf hT ho q1 q2 q3) rfl rfl ⟨Nat.le_of_ble_eq_true rfl, Nat.le_of_ble_eq_true rfl⟩ ⟨(by show _ ≤ 666358; omega), (by show _ ≤ 7096541; omega)⟩ rfl rfl (Nat.le_of_ble_eq_true rfl) ?_
      refine e_istore_14 dL_law_295 rfl (Nat.le_of_ble_eq_true rfl) rfl ?_
      refine e_iload_17 dL_law_297 rfl ?_
      refine e_if_ge_t (tgt := 306) dL_law_299 (by decide) ((nI_leI (a := 0) (by decide) (by omega)).mpr (Nat.zero_le C)) ?_
      refine e_iconst (v := nI 0) dL_law_306 rfl ic_0 ?_
      refine e_iload_16 dL_law_307 rfl ?_
      refine e_iload_15 dL_law_309 rfl ?_
      refine e_nc_lt_f dL_law_311 rfl ⟨321, by decide⟩ (by omega) (by omega) (by omega) ?_
      refine e_iload_16 dL_law_314 rfl ?_
      refine e_bipush (v := nI 31) dL_law_316 rfl bc_31 ?_
      refine e_nc_le_t (tgt := 325) dL_law_318 (by decide) (by omega) (by omega) (by omega) ?_
      refine e_iconst (v := nI 0) dL_law_325 rfl ic_0 ?_
      refine e_nc_ne_f dL_law_326 rfl ⟨368, by decide⟩ (by omega) (by omega) rfl ?_
      refine e_iload_14 dL_law_329 rfl ?_
      refine e_if_lt_t (tgt := 348) dL_law_331 (by decide) (by decide) ?_
      refine e_iload_14 dL_law_348 rfl ?_
      refine e_if_lt_t (tgt := 370) dL_law_350 (by decide) (by decide) ?_
      refine e_goto (tgt := 921) dL_law_370 (by decide) ?_
      refine e_weak (weak_c (weak_c (weak_c (weak_c (weak_c (weak_n (weak_c (weak_n (weak_n (weak_n (weak_n (weak_c (weak_c (weak_n (weak_c (weak_n (weak_n (weak_n weak_nil)))))))))))))))))) ?_
      exact e_wid (by omega) (by omega) (kk _ hT (Nat.le_refl _) (fun q => absurd q hz) (Nat.le_succ _) (Nat.le_succ _) (fun _ => ⟨rfl, svS_sx h hs⟩))
  · have hx : ∀ a' b' : Nat, a' ≤ b' → b' < 32 → ¬ (nI a = nI a' ∧ nI c = nI b') := fun a' b' h1 h2 h3 => q (by
      have e1 := (nI_eq (by omega) (by omega)).mp h3.1
      have e2 := (nI_eq (by omega) (by omega)).mp h3.2
      omega)
    refine e_aload_1 dL_law_270 rfl ?_
    refine e_bipush (v := nI 26) dL_law_271 rfl bd_26 ?_
    refine e_iload_8 dL_law_273 rfl ?_
    refine e_iload_15 dL_law_275 rfl ?_
    refine e_iload_16 dL_law_277 rfl ?_
    refine e_callW dL_law_279 rfl csL_117 (k_chRange_no2 hf h ho hx) rfl rfl ⟨Nat.le_of_ble_eq_true rfl, Nat.le_of_ble_eq_true rfl⟩ ⟨(by show _ ≤ 666358; omega), (by show _ ≤ 7096541; omega)⟩ rfl rfl (Nat.le_of_ble_eq_true rfl) ?_
    refine e_istore_17 dL_law_282 rfl (Nat.le_of_ble_eq_true rfl) rfl ?_
    refine e_aload_1 dL_law_284 rfl ?_
    refine e_iconst (v := nI 1) dL_law_285 rfl ic_1 ?_
    refine e_iload_8 dL_law_286 rfl ?_
    refine e_iload_15 dL_law_288 rfl ?_
    refine e_iload_16 dL_law_290 rfl ?_
    refine e_callW dL_law_292 rfl csL_117 (k_addRange_no2 hf h ho hx) rfl rfl ⟨Nat.le_of_ble_eq_true rfl, Nat.le_of_ble_eq_true rfl⟩ ⟨(by show _ ≤ 666358; omega), (by show _ ≤ 7096541; omega)⟩ rfl rfl (Nat.le_of_ble_eq_true rfl) ?_
    refine e_istore_14 dL_law_295 rfl (Nat.le_of_ble_eq_true rfl) rfl ?_
    refine e_iload_17 dL_law_297 rfl ?_
    refine e_if_ge_f dL_law_299 rfl ⟨306, by decide⟩ (by decide) ?_
    refine e_iconst (v := nI 1) dL_law_302 rfl ic_1 ?_
    refine e_goto (tgt := 307) dL_law_303 (by decide) ?_
    by_cases q3 : c < a
    · refine e_iload_16 dL_law_307 rfl ?_
      refine e_iload_15 dL_law_309 rfl ?_
      refine e_nc_lt_t (tgt := 321) dL_law_311 (by decide) (by omega) (by omega) q3 ?_
      refine e_iconst (v := nI 1) dL_law_321 rfl ic_1 ?_
      refine e_goto (tgt := 326) dL_law_322 (by decide) ?_
      refine e_nc_ne_f dL_law_326 rfl ⟨368, by decide⟩ (by omega) (by omega) rfl ?_
      refine e_iload_14 dL_law_329 rfl ?_
      refine e_if_lt_t (tgt := 348) dL_law_331 (by decide) (by decide) ?_
      refine e_iload_14 dL_law_348 rfl ?_
      refine e_if_lt_t (tgt := 370) dL_law_350 (by decide) (by decide) ?_
      refine e_goto (tgt := 921) dL_law_370 (by decide) ?_
      refine e_weak (weak_c (weak_c (weak_c (weak_c (weak_c (weak_n (weak_c (weak_n (weak_n (weak_n (weak_n (weak_c (weak_c (weak_n (weak_c (weak_n (weak_n (weak_n weak_nil)))))))))))))))))) ?_
      exact e_wid (by omega) (by omega) (kk _ h (Nat.le_refl _) (fun q => absurd q hz) (Nat.le_succ _) (Nat.le_succ _) (fun _ => ⟨rfl, rfl⟩))
    · refine e_iload_16 dL_law_307 rfl ?_
      refine e_iload_15 dL_law_309 rfl ?_
      refine e_nc_lt_f dL_law_311 rfl ⟨321, by decide⟩ (by omega) (by omega) (by omega) ?_
      refine e_iload_16 dL_law_314 rfl ?_
      refine e_bipush (v := nI 31) dL_law_316 rfl bc_31 ?_
      refine e_nc_le_f dL_law_318 rfl ⟨325, by decide⟩ (by omega) (by omega) (by omega) ?_
      refine e_iconst (v := nI 1) dL_law_321 rfl ic_1 ?_
      refine e_goto (tgt := 326) dL_law_322 (by decide) ?_
      refine e_nc_ne_f dL_law_326 rfl ⟨368, by decide⟩ (by omega) (by omega) rfl ?_
      refine e_iload_14 dL_law_329 rfl ?_
      refine e_if_lt_t (tgt := 348) dL_law_331 (by decide) (by decide) ?_
      refine e_iload_14 dL_law_348 rfl ?_
      refine e_if_lt_t (tgt := 370) dL_law_350 (by decide) (by decide) ?_
      refine e_goto (tgt := 921) dL_law_370 (by decide) ?_
      refine e_weak (weak_c (weak_c (weak_c (weak_c (weak_c (weak_n (weak_c (weak_n (weak_n (weak_n (weak_n (weak_c (weak_c (weak_n (weak_c (weak_n (weak_n (weak_n weak_nil)))))))))))))))))) ?_
      exact e_wid (by omega) (by omega) (kk _ h (Nat.le_refl _) (fun q => absurd q hz) (Nat.le_succ _) (Nat.le_succ _) (fun _ => ⟨rfl, rfl⟩))
theorem ev_removeRange {l : Launch} (hf : l.stackTraces = false) {nm : String} {hl : List (Nat × Nat × Nat × Nat)} {b Ln : Nat} {xs : Nat → Int32} {M : pmM} {od : Nat → Nat} {oc rc td g : Nat} {rg : Nat → Nat} {H : Nat} (h : IV M od oc rc td g rg H) {e ob ru po u : Nat} {gg hh ss : Int32} {z : Prop} (hg : g < 2 ^ 20) (hH : H < 2 ^ 20) (hu : u + 650 ≤ 666358) (ho : ob < oc) (hz : ¬ z) (kk : ∀ {N : pmM} {od' : Nat → Nat} {oc' rc' td' g' : Nat} {rg' : Nat → Nat} {H' : Nat} (told : Int32), IV N od' oc' rc' td' g' rg' H' → oc ≤ oc' → (z → oc < 8 → oc' = oc + 1) → g' ≤ g + 1 → H' ≤ H + 1 → (told < 0 → oc' = oc ∧ svS N od' oc' rc' td' rg' = svS M od oc rc td rg) → Ev l (kLaw nm hl) (gS b Ln xs) room_1 64 (u + 40) (6 * (u + 40)) 921 [some (.ref 1000), some (.ref 0), some (.int (nI oc')), some (.int (nI g')), some (.int (nI e)), none, some (.int hh), none, none, none, none, some (.long (svS M od oc rc td rg)), none, none, some (.int told), none, none, none] [] N) : Ev l (kLaw nm hl) (gS b Ln xs) room_1 64 u (6 * u) 379 [some (.ref 1000), some (.ref 0), some (.int (nI oc)), some (.int (nI g)), some (.int (nI e)), some (.int gg), some (.int hh), some (.int ss), some (.int (nI ob)), some (.int (nI ru)), some (.int (nI po)), some (.long (svS M od oc rc td rg)), none, some (.int (nI (acN M od rc))), some (.int (nI 0)), none, none, none] [] M := by
  have h8 := h.oc8
  have hr8 := h.rc8
  have ht9 := h.td9
  have hac := acN_le M od rc
  by_cases q : rg ob = 0
  · refine e_aload_1 dL_law_379 rfl ?_
    refine e_iconst (v := nI 2) dL_law_380 rfl ic_2 ?_
    refine e_iload_8 dL_law_381 rfl ?_
    refine e_iconst (v := nI 0) dL_law_383 rfl ic_0 ?_
    refine e_iconst (v := nI 0) dL_law_384 rfl ic_0 ?_
    refine e_callW dL_law_385 rfl csL_117 (k_removeRange_no2 hf h ho q) rfl rfl ⟨Nat.le_of_ble_eq_true rfl, Nat.le_of_ble_eq_true rfl⟩ ⟨(by show _ ≤ 666358; omega), (by show _ ≤ 7096541; omega)⟩ rfl rfl (Nat.le_of_ble_eq_true rfl) ?_
    refine e_istore_14 dL_law_388 rfl (Nat.le_of_ble_eq_true rfl) rfl ?_
    refine e_goto (tgt := 921) dL_law_390 (by decide) ?_
    refine e_weak (weak_c (weak_c (weak_c (weak_c (weak_c (weak_n (weak_c (weak_n (weak_n (weak_n (weak_n (weak_c (weak_c (weak_n (weak_c (weak_n (weak_n (weak_n weak_nil)))))))))))))))))) ?_
    exact e_wid (by omega) (by omega) (kk _ h (Nat.le_refl _) (fun q => absurd q hz) (Nat.le_succ _) (Nat.le_succ _) (fun _ => ⟨rfl, rfl⟩))
  · refine e_aload_1 dL_law_379 rfl ?_
    refine e_iconst (v := nI 2) dL_law_380 rfl ic_2 ?_
    refine e_iload_8 dL_law_381 rfl ?_
    refine e_iconst (v := nI 0) dL_law_383 rfl ic_0 ?_
    refine e_iconst (v := nI 0) dL_law_384 rfl ic_0 ?_
    refine e_callW dL_law_385 rfl csL_117 (k_removeRange_ok hf h ho (by omega)) rfl rfl ⟨Nat.le_of_ble_eq_true rfl, Nat.le_of_ble_eq_true rfl⟩ ⟨(by show _ ≤ 666358; omega), (by show _ ≤ 7096541; omega)⟩ rfl rfl (Nat.le_of_ble_eq_true rfl) ?_
    refine e_istore_14 dL_law_388 rfl (Nat.le_of_ble_eq_true rfl) rfl ?_
    refine e_goto (tgt := 921) dL_law_390 (by decide) ?_
    refine e_weak (weak_c (weak_c (weak_c (weak_c (weak_c (weak_n (weak_c (weak_n (weak_n (weak_n (weak_n (weak_c (weak_c (weak_n (weak_c (weak_n (weak_n (weak_n weak_nil)))))))))))))))))) ?_
    exact e_wid (by omega) (by omega) (kk _ (h.removeRange ho) (Nat.le_refl _) (fun q => absurd q hz) (Nat.le_succ _) (Nat.le_succ _) (fun q => absurd q (nI_nn (by have := h.hrg ob (by omega); omega))))
theorem ev_member {l : Launch} (hf : l.stackTraces = false) {nm : String} {hl : List (Nat × Nat × Nat × Nat)} {b Ln : Nat} {xs : Nat → Int32} {M : pmM} {od : Nat → Nat} {oc rc td g : Nat} {rg : Nat → Nat} {H : Nat} (h : IV M od oc rc td g rg H) {e ob ru po u : Nat} {gg hh ss : Int32} {z : Prop} (hg : g < 2 ^ 20) (hH : H < 2 ^ 20) (hu : u + 650 ≤ 666358) (ho : ob < oc) (hz : ¬ z) (kk : ∀ {N : pmM} {od' : Nat → Nat} {oc' rc' td' g' : Nat} {rg' : Nat → Nat} {H' : Nat} (told : Int32), IV N od' oc' rc' td' g' rg' H' → oc ≤ oc' → (z → oc < 8 → oc' = oc + 1) → g' ≤ g + 1 → H' ≤ H + 1 → (told < 0 → oc' = oc ∧ svS N od' oc' rc' td' rg' = svS M od oc rc td rg) → Ev l (kLaw nm hl) (gS b Ln xs) room_1 64 (u + 40) (6 * (u + 40)) 921 [some (.ref 1000), some (.ref 0), some (.int (nI oc')), some (.int (nI g')), some (.int (nI e)), none, some (.int hh), none, none, none, none, some (.long (svS M od oc rc td rg)), none, none, some (.int told), none, none, none] [] N) : Ev l (kLaw nm hl) (gS b Ln xs) room_1 64 u (6 * u) 400 [some (.ref 1000), some (.ref 0), some (.int (nI oc)), some (.int (nI g)), some (.int (nI e)), some (.int gg), some (.int hh), some (.int ss), some (.int (nI ob)), some (.int (nI ru)), some (.int (nI po)), some (.long (svS M od oc rc td rg)), none, some (.int (nI (acN M od rc))), some (.int (nI 0)), none, none, none] [] M := by
  have h8 := h.oc8
  have hr8 := h.rc8
  have ht9 := h.td9
  have hac := acN_le M od rc
  have hm := lowN_lt (hh >>> (nI 2 &&& 31)) (show 0 < oc by omega)
  have h4 := lowN_lt hh (show 0 < 4 by decide)
  obtain ⟨-, -, hcn⟩ := h.2.1 ob (by omega)
  refine e_aload_1 dL_law_400 rfl ?_
  refine e_iload_6 dL_law_401 rfl ?_
  refine e_iconst (v := nI 4) dL_law_403 rfl ic_4 ?_
  refine e_callS dL_law_404 rfl csL_129 (s_low (v := hh) (k := 4) hf (by omega) (by omega)) rfl rfl ⟨Nat.le_of_ble_eq_true rfl, Nat.le_of_ble_eq_true rfl⟩ ⟨(by show _ ≤ 666358; omega), (by show _ ≤ 7096541; omega)⟩ rfl rfl (Nat.le_of_ble_eq_true rfl) ?_
  by_cases q : lowN hh 4 = 0
  · refine e_if_ne_f dL_law_407 rfl ⟨414, by decide⟩ (by rw [q]; rfl) ?_
    refine e_iconst (v := nI 4) dL_law_410 rfl ic_4 ?_
    refine e_goto (tgt := 415) dL_law_411 (by decide) ?_
    refine e_iload_8 dL_law_415 rfl ?_
    refine e_iload_2 dL_law_417 rfl ?_
    refine e_if_ne_t (tgt := 425) dL_law_418 (by decide) (nI_ne (by omega) (by omega)) ?_
    refine e_iload_6 dL_law_425 rfl ?_
    refine e_iconst (v := nI 2) dL_law_427 rfl ic_2 ?_
    refine e_ishr dL_law_428 rfl ?_
    refine e_iload_2 dL_law_429 rfl ?_
    refine e_callS dL_law_430 rfl csL_129 (s_low (v := hh >>> (nI 2 &&& 31)) (k := oc) hf (by omega) (by omega)) rfl rfl ⟨Nat.le_of_ble_eq_true rfl, Nat.le_of_ble_eq_true rfl⟩ ⟨(by show _ ≤ 666358; omega), (by show _ ≤ 7096541; omega)⟩ rfl rfl (Nat.le_of_ble_eq_true rfl) ?_
    refine e_iconst (v := nI 0) dL_law_433 rfl ic_0 ?_
    generalize lowN (hh >>> (nI 2 &&& 31)) oc = m at hm ⊢
    cases q2 : hasb (M.1 (15 + 2 * ob) 2) m with
    | true =>
      refine e_callW dL_law_434 rfl csL_117 (k_removeMember_ok hf h ho hm q2) rfl rfl ⟨Nat.le_of_ble_eq_true rfl, Nat.le_of_ble_eq_true rfl⟩ ⟨(by show _ ≤ 666358; omega), (by show _ ≤ 7096541; omega)⟩ rfl rfl (Nat.le_of_ble_eq_true rfl) ?_
      refine e_istore_14 dL_law_437 rfl (Nat.le_of_ble_eq_true rfl) rfl ?_
      refine e_goto (tgt := 921) dL_law_439 (by decide) ?_
      refine e_weak (weak_c (weak_c (weak_c (weak_c (weak_c (weak_n (weak_c (weak_n (weak_n (weak_n (weak_n (weak_c (weak_c (weak_n (weak_c (weak_n (weak_n (weak_n weak_nil)))))))))))))))))) ?_
      exact e_wid (by omega) (by omega) (kk _ (h.removeMember ho) (Nat.le_refl _) (fun q => absurd q hz) (Nat.le_succ _) (Nat.le_succ _) (fun w => absurd w (by rw [bcE_cnt]; exact nI_nn (by have := cntN_le (hasb (M.1 (15 + 2 * ob) 2 &&& ((nI 1 <<< (nI m &&& 31)) ^^^ (-1)))) 32; omega))))
    | false =>
      refine e_callW dL_law_434 rfl csL_117 (k_removeMember_no3 hf h ho hm q2) rfl rfl ⟨Nat.le_of_ble_eq_true rfl, Nat.le_of_ble_eq_true rfl⟩ ⟨(by show _ ≤ 666358; omega), (by show _ ≤ 7096541; omega)⟩ rfl rfl (Nat.le_of_ble_eq_true rfl) ?_
      refine e_istore_14 dL_law_437 rfl (Nat.le_of_ble_eq_true rfl) rfl ?_
      refine e_goto (tgt := 921) dL_law_439 (by decide) ?_
      refine e_weak (weak_c (weak_c (weak_c (weak_c (weak_c (weak_n (weak_c (weak_n (weak_n (weak_n (weak_n (weak_c (weak_c (weak_n (weak_c (weak_n (weak_n (weak_n weak_nil)))))))))))))))))) ?_
      exact e_wid (by omega) (by omega) (kk _ h (Nat.le_refl _) (fun q => absurd q hz) (Nat.le_succ _) (Nat.le_succ _) (fun _ => ⟨rfl, rfl⟩))
  · refine e_if_ne_t (tgt := 414) dL_law_407 (by decide) (nI_ne (by omega) q) ?_
    refine e_iconst (v := nI 3) dL_law_414 rfl ic_3 ?_
    refine e_iload_8 dL_law_415 rfl ?_
    refine e_iload_2 dL_law_417 rfl ?_
    refine e_if_ne_t (tgt := 425) dL_law_418 (by decide) (nI_ne (by omega) (by omega)) ?_
    refine e_iload_6 dL_law_425 rfl ?_
    refine e_iconst (v := nI 2) dL_law_427 rfl ic_2 ?_
    refine e_ishr dL_law_428 rfl ?_
    refine e_iload_2 dL_law_429 rfl ?_
    refine e_callS dL_law_430 rfl csL_129 (s_low (v := hh >>> (nI 2 &&& 31)) (k := oc) hf (by omega) (by omega)) rfl rfl ⟨Nat.le_of_ble_eq_true rfl, Nat.le_of_ble_eq_true rfl⟩ ⟨(by show _ ≤ 666358; omega), (by show _ ≤ 7096541; omega)⟩ rfl rfl (Nat.le_of_ble_eq_true rfl) ?_
    refine e_iconst (v := nI 0) dL_law_433 rfl ic_0 ?_
    generalize lowN (hh >>> (nI 2 &&& 31)) oc = m at hm ⊢
    by_cases qe : ob = m
    · subst qe
      refine e_callW dL_law_434 rfl csL_117 (k_addMember_no3 hf h ho) rfl rfl ⟨Nat.le_of_ble_eq_true rfl, Nat.le_of_ble_eq_true rfl⟩ ⟨(by show _ ≤ 666358; omega), (by show _ ≤ 7096541; omega)⟩ rfl rfl (Nat.le_of_ble_eq_true rfl) ?_
      refine e_istore_14 dL_law_437 rfl (Nat.le_of_ble_eq_true rfl) rfl ?_
      refine e_goto (tgt := 921) dL_law_439 (by decide) ?_
      refine e_weak (weak_c (weak_c (weak_c (weak_c (weak_c (weak_n (weak_c (weak_n (weak_n (weak_n (weak_n (weak_c (weak_c (weak_n (weak_c (weak_n (weak_n (weak_n weak_nil)))))))))))))))))) ?_
      exact e_wid (by omega) (by omega) (kk _ h (Nat.le_refl _) (fun q => absurd q hz) (Nat.le_succ _) (Nat.le_succ _) (fun _ => ⟨rfl, rfl⟩))
    · cases q2 : hasb (M.1 (15 + 2 * ob) 2) m with
      | true =>
        refine e_callW dL_law_434 rfl csL_117 (k_addMember_no4 hf h ho hm qe q2) rfl rfl ⟨Nat.le_of_ble_eq_true rfl, Nat.le_of_ble_eq_true rfl⟩ ⟨(by show _ ≤ 666358; omega), (by show _ ≤ 7096541; omega)⟩ rfl rfl (Nat.le_of_ble_eq_true rfl) ?_
        refine e_istore_14 dL_law_437 rfl (Nat.le_of_ble_eq_true rfl) rfl ?_
        refine e_goto (tgt := 921) dL_law_439 (by decide) ?_
        refine e_weak (weak_c (weak_c (weak_c (weak_c (weak_c (weak_n (weak_c (weak_n (weak_n (weak_n (weak_n (weak_c (weak_c (weak_n (weak_c (weak_n (weak_n (weak_n weak_nil)))))))))))))))))) ?_
        exact e_wid (by omega) (by omega) (kk _ h (Nat.le_refl _) (fun q => absurd q hz) (Nat.le_succ _) (Nat.le_succ _) (fun _ => ⟨rfl, rfl⟩))
      | false =>
        cases q3 : ndF M 8 m ob with
        | true =>
          refine e_callW dL_law_434 rfl csL_117 (k_addMember_no5 hf h ho hm qe q2 q3) rfl rfl ⟨Nat.le_of_ble_eq_true rfl, Nat.le_of_ble_eq_true rfl⟩ ⟨(by show _ ≤ 666358; omega), (by show _ ≤ 7096541; omega)⟩ rfl rfl (Nat.le_of_ble_eq_true rfl) ?_
          refine e_istore_14 dL_law_437 rfl (Nat.le_of_ble_eq_true rfl) rfl ?_
          refine e_goto (tgt := 921) dL_law_439 (by decide) ?_
          refine e_weak (weak_c (weak_c (weak_c (weak_c (weak_c (weak_n (weak_c (weak_n (weak_n (weak_n (weak_n (weak_c (weak_c (weak_n (weak_c (weak_n (weak_n (weak_n weak_nil)))))))))))))))))) ?_
          exact e_wid (by omega) (by omega) (kk _ h (Nat.le_refl _) (fun q => absurd q hz) (Nat.le_succ _) (Nat.le_succ _) (fun _ => ⟨rfl, rfl⟩))
        | false =>
          by_cases q4 : cntN (hasb (M.1 (15 + 2 * ob) 2)) 32 < 2
          · skip
            refine e_callW dL_law_434 rfl csL_117 (k_addMember_ok hf h ho hm qe q2 q3 q4) rfl rfl ⟨Nat.le_of_ble_eq_true rfl, Nat.le_of_ble_eq_true rfl⟩ ⟨(by show _ ≤ 666358; omega), (by show _ ≤ 7096541; omega)⟩ rfl rfl (Nat.le_of_ble_eq_true rfl) ?_
            refine e_istore_14 dL_law_437 rfl (Nat.le_of_ble_eq_true rfl) rfl ?_
            refine e_goto (tgt := 921) dL_law_439 (by decide) ?_
            refine e_weak (weak_c (weak_c (weak_c (weak_c (weak_c (weak_n (weak_c (weak_n (weak_n (weak_n (weak_n (weak_c (weak_c (weak_n (weak_c (weak_n (weak_n (weak_n weak_nil)))))))))))))))))) ?_
            exact e_wid (by omega) (by omega) (kk _ (h.addMember ho hm q4) (Nat.le_refl _) (fun q => absurd q hz) (Nat.le_succ _) (Nat.le_succ _) (fun w => absurd w (by rw [bcE_cnt]; exact nI_nn (by have := cntN_le (hasb (M.1 (15 + 2 * ob) 2 ||| (nI 1 <<< (nI m &&& 31)))) 32; omega))))
          · skip
            refine e_callW dL_law_434 rfl csL_117 (k_addMember_no6 hf h ho hm qe q2 q3 q4) rfl rfl ⟨Nat.le_of_ble_eq_true rfl, Nat.le_of_ble_eq_true rfl⟩ ⟨(by show _ ≤ 666358; omega), (by show _ ≤ 7096541; omega)⟩ rfl rfl (Nat.le_of_ble_eq_true rfl) ?_
            refine e_istore_14 dL_law_437 rfl (Nat.le_of_ble_eq_true rfl) rfl ?_
            refine e_goto (tgt := 921) dL_law_439 (by decide) ?_
            refine e_weak (weak_c (weak_c (weak_c (weak_c (weak_c (weak_n (weak_c (weak_n (weak_n (weak_n (weak_n (weak_c (weak_c (weak_n (weak_c (weak_n (weak_n (weak_n weak_nil)))))))))))))))))) ?_
            exact e_wid (by omega) (by omega) (kk _ h (Nat.le_refl _) (fun q => absurd q hz) (Nat.le_succ _) (Nat.le_succ _) (fun _ => ⟨rfl, rfl⟩))
theorem ev_addRule {l : Launch} (hf : l.stackTraces = false) {nm : String} {hl : List (Nat × Nat × Nat × Nat)} {b Ln : Nat} {xs : Nat → Int32} {M : pmM} {od : Nat → Nat} {oc rc td g : Nat} {rg : Nat → Nat} {H : Nat} (h : IV M od oc rc td g rg H) {e ob ru po u : Nat} {gg hh ss : Int32} {z : Prop} (hg : g < 2 ^ 20) (hH : H < 2 ^ 20) (hu : u + 650 ≤ 666358) (hz : ¬ z) (kk : ∀ {N : pmM} {od' : Nat → Nat} {oc' rc' td' g' : Nat} {rg' : Nat → Nat} {H' : Nat} (told : Int32), IV N od' oc' rc' td' g' rg' H' → oc ≤ oc' → (z → oc < 8 → oc' = oc + 1) → g' ≤ g + 1 → H' ≤ H + 1 → (told < 0 → oc' = oc ∧ svS N od' oc' rc' td' rg' = svS M od oc rc td rg) → Ev l (kLaw nm hl) (gS b Ln xs) room_1 64 (u + 40) (6 * (u + 40)) 921 [some (.ref 1000), some (.ref 0), some (.int (nI oc')), some (.int (nI g')), some (.int (nI e)), none, some (.int hh), none, none, none, none, some (.long (svS M od oc rc td rg)), none, none, some (.int told), none, none, none] [] N) : Ev l (kLaw nm hl) (gS b Ln xs) room_1 64 u (6 * u) 449 [some (.ref 1000), some (.ref 0), some (.int (nI oc)), some (.int (nI g)), some (.int (nI e)), some (.int gg), some (.int hh), some (.int ss), some (.int (nI ob)), some (.int (nI ru)), some (.int (nI po)), some (.long (svS M od oc rc td rg)), none, some (.int (nI (acN M od rc))), some (.int (nI 0)), none, none, none] [] M := by
  have h8 := h.oc8
  have hr8 := h.rc8
  have ht9 := h.td9
  have hac := acN_le M od rc
  have hp := lowN_lt hh (show 0 < rc + 1 by omega)
  have h5 := lowN_lt (hh >>> (nI 5 &&& 31)) (show 0 < oc + 1 by omega)
  have h9 := lowN_lt (hh >>> (nI 9 &&& 31)) (show 0 < oc + 1 by omega)
  have h13 := lowN_lt (hh >>> (nI 13 &&& 31)) (show 0 < oc + 1 by omega)
  have h17 := lowN_lt (hh >>> (nI 17 &&& 31)) (show 0 < 7 by decide)
  refine e_aload_1 dL_law_449 rfl ?_
  refine e_iload_6 dL_law_450 rfl ?_
  refine e_aload_1 dL_law_452 rfl ?_
  refine e_callV dL_law_453 rfl csL_123 (s_rules hf h.hrc hr8) rfl rfl ps_0 (by decide) (by decide) ⟨Nat.le_of_ble_eq_true rfl, Nat.le_of_ble_eq_true rfl⟩ ⟨(by show _ ≤ 666358; omega), (by show _ ≤ 7096541; omega)⟩ rfl rfl (Nat.le_of_ble_eq_true rfl) ?_
  refine e_iconst (v := nI 1) dL_law_456 rfl ic_1 ?_
  refine e_iadd dL_law_457 rfl ?_
  refine e_topi (nI (rc + 1)) (nI_add _ _) ?_
  refine e_callS dL_law_458 rfl csL_129 (s_low (v := hh) (k := rc + 1) hf (by omega) (by omega)) rfl rfl ⟨Nat.le_of_ble_eq_true rfl, Nat.le_of_ble_eq_true rfl⟩ ⟨(by show _ ≤ 666358; omega), (by show _ ≤ 7096541; omega)⟩ rfl rfl (Nat.le_of_ble_eq_true rfl) ?_
  refine e_iload_6 dL_law_461 rfl ?_
  refine e_iconst (v := nI 4) dL_law_463 rfl ic_4 ?_
  refine e_ishr dL_law_464 rfl ?_
  refine e_iconst (v := nI 1) dL_law_465 rfl ic_1 ?_
  refine e_iand dL_law_466 rfl ?_
  have kB : ∀ ac : Int32, (ac = nI 97 ∨ ac = nI 100) → Ev l (kLaw nm hl) (gS b Ln xs) room_1 64 (u + 1) (6 * (u + 1)) 477 [some (.ref 1000), some (.ref 0), some (.int (nI oc)), some (.int (nI g)), some (.int (nI e)), some (.int gg), some (.int hh), some (.int ss), some (.int (nI ob)), some (.int (nI ru)), some (.int (nI po)), some (.long (svS M od oc rc td rg)), none, some (.int (nI (acN M od rc))), some (.int (nI 0)), none, none, none] [.int ac, .int (nI (lowN hh (rc + 1))), .ref 0] M := fun ac hac2 => by
    refine e_iload_6 dL_law_477 rfl ?_
    refine e_iconst (v := nI 5) dL_law_479 rfl ic_5 ?_
    refine e_ishr dL_law_480 rfl ?_
    refine e_iload_2 dL_law_481 rfl ?_
    refine e_iconst (v := nI 1) dL_law_482 rfl ic_1 ?_
    refine e_iadd dL_law_483 rfl ?_
    refine e_topi (nI (oc + 1)) (nI_add _ _) ?_
    refine e_callS dL_law_484 rfl csL_129 (s_low (v := hh >>> (nI 5 &&& 31)) (k := oc + 1) hf (by omega) (by omega)) rfl rfl ⟨Nat.le_of_ble_eq_true rfl, Nat.le_of_ble_eq_true rfl⟩ ⟨(by show _ ≤ 666358; omega), (by show _ ≤ 7096541; omega)⟩ rfl rfl (Nat.le_of_ble_eq_true rfl) ?_
    refine e_iconst (v := nI 1) dL_law_487 rfl ic_1 ?_
    refine e_isub dL_law_488 rfl ?_
    refine e_iload_6 dL_law_489 rfl ?_
    refine e_bipush (v := nI 9) dL_law_491 rfl bc_9 ?_
    refine e_ishr dL_law_493 rfl ?_
    refine e_iload_2 dL_law_494 rfl ?_
    refine e_iconst (v := nI 1) dL_law_495 rfl ic_1 ?_
    refine e_iadd dL_law_496 rfl ?_
    refine e_topi (nI (oc + 1)) (nI_add _ _) ?_
    refine e_callS dL_law_497 rfl csL_129 (s_low (v := hh >>> (nI 9 &&& 31)) (k := oc + 1) hf (by omega) (by omega)) rfl rfl ⟨Nat.le_of_ble_eq_true rfl, Nat.le_of_ble_eq_true rfl⟩ ⟨(by show _ ≤ 666358; omega), (by show _ ≤ 7096541; omega)⟩ rfl rfl (Nat.le_of_ble_eq_true rfl) ?_
    refine e_iconst (v := nI 1) dL_law_500 rfl ic_1 ?_
    refine e_isub dL_law_501 rfl ?_
    refine e_iload_6 dL_law_502 rfl ?_
    refine e_bipush (v := nI 13) dL_law_504 rfl bd_13 ?_
    refine e_ishr dL_law_506 rfl ?_
    refine e_iload_2 dL_law_507 rfl ?_
    refine e_iconst (v := nI 1) dL_law_508 rfl ic_1 ?_
    refine e_iadd dL_law_509 rfl ?_
    refine e_topi (nI (oc + 1)) (nI_add _ _) ?_
    refine e_callS dL_law_510 rfl csL_129 (s_low (v := hh >>> (nI 13 &&& 31)) (k := oc + 1) hf (by omega) (by omega)) rfl rfl ⟨Nat.le_of_ble_eq_true rfl, Nat.le_of_ble_eq_true rfl⟩ ⟨(by show _ ≤ 666358; omega), (by show _ ≤ 7096541; omega)⟩ rfl rfl (Nat.le_of_ble_eq_true rfl) ?_
    refine e_iconst (v := nI 1) dL_law_513 rfl ic_1 ?_
    refine e_isub dL_law_514 rfl ?_
    refine e_iload_6 dL_law_515 rfl ?_
    refine e_bipush (v := nI 17) dL_law_517 rfl bd_17 ?_
    refine e_ishr dL_law_519 rfl ?_
    refine e_bipush (v := nI 7) dL_law_520 rfl bc_7 ?_
    refine e_callS dL_law_522 rfl csL_129 (s_low (v := hh >>> (nI 17 &&& 31)) (k := 7) hf (by omega) (by omega)) rfl rfl ⟨Nat.le_of_ble_eq_true rfl, Nat.le_of_ble_eq_true rfl⟩ ⟨(by show _ ≤ 666358; omega), (by show _ ≤ 7096541; omega)⟩ rfl rfl (Nat.le_of_ble_eq_true rfl) ?_
    have o5 := ob_arg (show lowN (hh >>> (nI 5 &&& 31)) (oc + 1) ≤ oc by omega)
    have o9 := ob_arg (show lowN (hh >>> (nI 9 &&& 31)) (oc + 1) ≤ oc by omega)
    have o13 := ob_arg (show lowN (hh >>> (nI 13 &&& 31)) (oc + 1) ≤ oc by omega)
    generalize nI (lowN (hh >>> (nI 5 &&& 31)) (oc + 1)) - nI 1 = x5 at o5 ⊢
    generalize nI (lowN (hh >>> (nI 9 &&& 31)) (oc + 1)) - nI 1 = x9 at o9 ⊢
    generalize nI (lowN (hh >>> (nI 13 &&& 31)) (oc + 1)) - nI 1 = x13 at o13 ⊢
    generalize lowN (hh >>> (nI 17 &&& 31)) 7 = ow at h17 ⊢
    generalize lowN hh (rc + 1) = p at hp ⊢
    by_cases q : ow < 6
    · by_cases q2 : rc < 8
      · skip
        refine e_callW dL_law_525 rfl csL_161 (cl_addRule hf (s_addRule_ok hf h.mr h.od8 h.hrc hr8 h.hrg h.hfo h.hoc h8 o5 o9 o13 hac2 q h.hg (show p ≤ rc by omega) q2) (Or.inl rfl)) rfl rfl ⟨Nat.le_of_ble_eq_true rfl, Nat.le_of_ble_eq_true rfl⟩ ⟨(by show _ ≤ 666358; omega), (by show _ ≤ 7096541; omega)⟩ rfl rfl (Nat.le_of_ble_eq_true rfl) ?_
        refine e_istore_14 dL_law_528 rfl (Nat.le_of_ble_eq_true rfl) rfl ?_
        refine e_iload_3 dL_law_530 rfl ?_
        refine e_iload_14 dL_law_531 rfl ?_
        refine e_if_lt_f dL_law_533 rfl ⟨540, by decide⟩ (nI_nn (by omega)) ?_
        refine e_iconst (v := nI 1) dL_law_536 rfl ic_1 ?_
        refine e_goto (tgt := 541) dL_law_537 (by decide) ?_
        refine e_iadd dL_law_541 rfl ?_
        refine e_topi (nI (g + 1)) (nI_add _ _) ?_
        refine e_istore_3 dL_law_542 rfl (Nat.le_of_ble_eq_true rfl) rfl ?_
        refine e_goto (tgt := 921) dL_law_543 (by decide) ?_
        refine e_weak (weak_c (weak_c (weak_c (weak_c (weak_c (weak_n (weak_c (weak_n (weak_n (weak_n (weak_n (weak_c (weak_c (weak_n (weak_c (weak_n (weak_n (weak_n weak_nil)))))))))))))))))) ?_
        exact e_wid (by omega) (by omega) (kk _ (h.addRule (show p ≤ rc by omega) q2 (by omega) hac2 o5 o9 o13) (Nat.le_refl _) (fun q => absurd q hz) (Nat.le_refl _) (Nat.le_succ _) (fun q => absurd q (nI_nn (by omega))))
      · have hrc8 : M.1 0 3 = nI 8 := by rw [h.hrc, show rc = 8 by omega]
        refine e_callW dL_law_525 rfl csL_161 (cl_addRule hf (s_addRule_no5 hf hrc8 h.hoc h8 (show p ≤ 8 by omega) o5 o9 o13 hac2 q) (Or.inr ⟨2, by decide, rfl, rfl⟩)) rfl rfl ⟨Nat.le_of_ble_eq_true rfl, Nat.le_of_ble_eq_true rfl⟩ ⟨(by show _ ≤ 666358; omega), (by show _ ≤ 7096541; omega)⟩ rfl rfl (Nat.le_of_ble_eq_true rfl) ?_
        refine e_istore_14 dL_law_528 rfl (Nat.le_of_ble_eq_true rfl) rfl ?_
        refine e_iload_3 dL_law_530 rfl ?_
        refine e_iload_14 dL_law_531 rfl ?_
        refine e_if_lt_t (tgt := 540) dL_law_533 (by decide) (by decide) ?_
        refine e_iconst (v := nI 0) dL_law_540 rfl ic_0 ?_
        refine e_iadd dL_law_541 rfl ?_
        refine e_topi (nI g) (by rw [nI_add, Nat.add_zero]) ?_
        refine e_istore_3 dL_law_542 rfl (Nat.le_of_ble_eq_true rfl) rfl ?_
        refine e_goto (tgt := 921) dL_law_543 (by decide) ?_
        refine e_weak (weak_c (weak_c (weak_c (weak_c (weak_c (weak_n (weak_c (weak_n (weak_n (weak_n (weak_n (weak_c (weak_c (weak_n (weak_c (weak_n (weak_n (weak_n weak_nil)))))))))))))))))) ?_
        exact e_wid (by omega) (by omega) (kk _ h (Nat.le_refl _) (fun q => absurd q hz) (Nat.le_succ _) (Nat.le_succ _) (fun _ => ⟨rfl, rfl⟩))
    · have hx : ¬ vp_in (nI ow) 6 := fun w => q (by
        rcases (show ow = 6 by omega) with rfl
        exact (w (Or.inr (by decide))).elim)
      refine e_callW dL_law_525 rfl csL_161 (cl_addRule hf (s_addRule_no4 hf h.hrc hr8 h.hoc h8 (show p ≤ rc by omega) o5 o9 o13 hac2 hx) (Or.inr ⟨1, by decide, rfl, rfl⟩)) rfl rfl ⟨Nat.le_of_ble_eq_true rfl, Nat.le_of_ble_eq_true rfl⟩ ⟨(by show _ ≤ 666358; omega), (by show _ ≤ 7096541; omega)⟩ rfl rfl (Nat.le_of_ble_eq_true rfl) ?_
      refine e_istore_14 dL_law_528 rfl (Nat.le_of_ble_eq_true rfl) rfl ?_
      refine e_iload_3 dL_law_530 rfl ?_
      refine e_iload_14 dL_law_531 rfl ?_
      refine e_if_lt_t (tgt := 540) dL_law_533 (by decide) (by decide) ?_
      refine e_iconst (v := nI 0) dL_law_540 rfl ic_0 ?_
      refine e_iadd dL_law_541 rfl ?_
      refine e_topi (nI g) (by rw [nI_add, Nat.add_zero]) ?_
      refine e_istore_3 dL_law_542 rfl (Nat.le_of_ble_eq_true rfl) rfl ?_
      refine e_goto (tgt := 921) dL_law_543 (by decide) ?_
      refine e_weak (weak_c (weak_c (weak_c (weak_c (weak_c (weak_n (weak_c (weak_n (weak_n (weak_n (weak_n (weak_c (weak_c (weak_n (weak_c (weak_n (weak_n (weak_n weak_nil)))))))))))))))))) ?_
      exact e_wid (by omega) (by omega) (kk _ h (Nat.le_refl _) (fun q => absurd q hz) (Nat.le_succ _) (Nat.le_succ _) (fun _ => ⟨rfl, rfl⟩))
  refine e_if_ne (tgt := 475) dL_law_467 (by decide) rfl (fun _ => ?_) (fun _ => ?_)
  · refine e_bipush (v := nI 100) dL_law_475 rfl bc_100 ?_
    exact e_wid (by omega) (by omega) (kB _ (Or.inr rfl))
  · refine e_bipush (v := nI 97) dL_law_470 rfl bc_97 ?_
    refine e_goto (tgt := 477) dL_law_472 (by decide) ?_
    exact e_wid (by omega) (by omega) (kB _ (Or.inl rfl))
theorem ev_removeRule {l : Launch} (hf : l.stackTraces = false) {nm : String} {hl : List (Nat × Nat × Nat × Nat)} {b Ln : Nat} {xs : Nat → Int32} {M : pmM} {od : Nat → Nat} {oc rc td g : Nat} {rg : Nat → Nat} {H : Nat} (h : IV M od oc rc td g rg H) {e ob ru po u : Nat} {gg hh ss : Int32} {z : Prop} (hg : g < 2 ^ 20) (hH : H < 2 ^ 20) (hu : u + 650 ≤ 666358) (hz : ¬ z) (kk : ∀ {N : pmM} {od' : Nat → Nat} {oc' rc' td' g' : Nat} {rg' : Nat → Nat} {H' : Nat} (told : Int32), IV N od' oc' rc' td' g' rg' H' → oc ≤ oc' → (z → oc < 8 → oc' = oc + 1) → g' ≤ g + 1 → H' ≤ H + 1 → (told < 0 → oc' = oc ∧ svS N od' oc' rc' td' rg' = svS M od oc rc td rg) → Ev l (kLaw nm hl) (gS b Ln xs) room_1 64 (u + 40) (6 * (u + 40)) 921 [some (.ref 1000), some (.ref 0), some (.int (nI oc')), some (.int (nI g')), some (.int (nI e)), none, some (.int hh), none, none, none, none, some (.long (svS M od oc rc td rg)), none, none, some (.int told), none, none, none] [] N) : Ev l (kLaw nm hl) (gS b Ln xs) room_1 64 u (6 * u) 553 [some (.ref 1000), some (.ref 0), some (.int (nI oc)), some (.int (nI g)), some (.int (nI e)), some (.int gg), some (.int hh), some (.int ss), some (.int (nI ob)), some (.int (nI ru)), some (.int (nI po)), some (.long (svS M od oc rc td rg)), none, some (.int (nI (acN M od rc))), some (.int (nI 0)), none, none, none] [] M := by
  have h8 := h.oc8
  have hr8 := h.rc8
  have ht9 := h.td9
  have hac := acN_le M od rc
  rcases find_rule M od (nI ru) rc with ⟨p, hp, hx, -⟩ | hn
  · have hN := h.removeRule hp
    obtain ⟨t1, t2⟩ := tri1 (dcA M od rc) (dcA M (shO od p (rc - 1)) (rc - 1))
    obtain ⟨C, hC⟩ : ∃ C, C = cn3 (fun x y w => xor (dcA M od rc x y w) (dcA M (shO od p (rc - 1)) (rc - 1) x y w)) := ⟨_, rfl⟩
    have hC8 : C ≤ 32768 := by rw [hC]; exact cn3_le _
    rw [← hC] at t1 t2
    have e1 : crE M od rc p = nI C := by rw [cr_nI h.hac hr8 hp, hC]
    have hrm : SpH l kL_call 64 15 1 6 [.ref 0, .int (nI 8), .int (nI ru), .int (nI 0), .int (nI 0)] M (.inl (some (.int (nI C)))) (rmM M od rc p) := by
      have k := k_removeRule_ok (c0 := nI 0) (c1 := nI 0) hf h hp
      rwa [hx, e1] at k
    have ed : ∀ x y w, dcA (rmM M od rc p) (shO od p (rc - 1)) (rc - 1) x y w = dcA M (shO od p (rc - 1)) (rc - 1) x y w := fun x y w => by
      have e0 : ∀ a k, a ≠ 0 ∨ k ≠ 3 → (rmM M od rc p).1 a k = M.1 a k := fun a k hk => by
        show (if a = 0 ∧ k = 3 then nI (rc - 1) else M.1 a k) = _
        rw [if_neg (by omega)]
      unfold dcA
      refine dcR_congr (rc - 1) 0 0 (fun q hq => ⟨?_, ?_⟩)
      · unfold msP inF maF
        rw [e0 _ _ (by omega), e0 _ _ (by omega), e0 _ _ (by omega), e0 _ _ (by omega), e0 _ _ (by omega)]
      · unfold acP
        rw [e0 _ _ (by omega)]
    have hacc : Sp l kX3_accepted 64 13 0 0 [.ref 0] (rmM M od rc p) (.inl (some (.int (nI (cn3 (dcA M (shO od p (rc - 1)) (rc - 1))))))) (rmM M od rc p) := by
      have k := s_accepted hf hN.mr hN.od8 hN.hrc hN.rc8
      rwa [ac_nI _ _ hN.rc8, show acN (rmM M od rc p) (shO od p (rc - 1)) (rc - 1) = cn3 (dcA M (shO od p (rc - 1)) (rc - 1)) from cn3_congr (fun x y w _ _ _ => ed x y w)] at k
    have hB : cn3 (dcA M (shO od p (rc - 1)) (rc - 1)) ≤ 32768 := cn3_le _
    have t3 : acN M od rc ≤ cn3 (dcA M (shO od p (rc - 1)) (rc - 1)) + C := t1
    have t4 : cn3 (dcA M (shO od p (rc - 1)) (rc - 1)) ≤ acN M od rc + C := t2
    generalize cn3 (dcA M (shO od p (rc - 1)) (rc - 1)) = B at hB hacc t3 t4
    refine e_aload_1 dL_law_553 rfl ?_
    refine e_bipush (v := nI 8) dL_law_554 rfl bc_8 ?_
    refine e_iload_9 dL_law_556 rfl ?_
    refine e_iconst (v := nI 0) dL_law_558 rfl ic_0 ?_
    refine e_iconst (v := nI 0) dL_law_559 rfl ic_0 ?_
    refine e_callW dL_law_560 rfl csL_117 hrm rfl rfl ⟨Nat.le_of_ble_eq_true rfl, Nat.le_of_ble_eq_true rfl⟩ ⟨(by show _ ≤ 666358; omega), (by show _ ≤ 7096541; omega)⟩ rfl rfl (Nat.le_of_ble_eq_true rfl) ?_
    refine e_istore_14 dL_law_563 rfl (Nat.le_of_ble_eq_true rfl) rfl ?_
    refine e_iload_14 dL_law_565 rfl ?_
    refine e_if_lt_f dL_law_567 rfl ⟨921, by decide⟩ (nI_nn (by omega)) ?_
    refine e_aload_1 dL_law_570 rfl ?_
    refine e_callV dL_law_571 rfl csL_133 hacc rfl rfl ps_0 (by decide) (by decide) ⟨Nat.le_of_ble_eq_true rfl, Nat.le_of_ble_eq_true rfl⟩ ⟨(by show _ ≤ 666358; omega), (by show _ ≤ 7096541; omega)⟩ rfl rfl (Nat.le_of_ble_eq_true rfl) ?_
    refine e_iload_13 dL_law_574 rfl ?_
    refine e_isub dL_law_576 rfl ?_
    refine e_mabs dL_law_577 rfl mabsL_156 ⟨Nat.le_of_ble_eq_true rfl, Nat.le_of_ble_eq_true rfl⟩ ⟨(by show _ ≤ 666358; omega), (by show _ ≤ 7096541; omega)⟩ (Nat.le_of_ble_eq_true rfl) ?_
    refine e_iload_14 dL_law_580 rfl ?_
    refine e_ic_le_t (tgt := 921) dL_law_582 (by decide) (abs_le hB hac hC8 (by omega) (by omega)) ?_
    refine e_weak (weak_c (weak_c (weak_c (weak_c (weak_c (weak_n (weak_c (weak_n (weak_n (weak_n (weak_n (weak_c (weak_c (weak_n (weak_c (weak_n (weak_n (weak_n weak_nil)))))))))))))))))) ?_
    exact e_wid (by omega) (by omega) (kk _ hN (Nat.le_refl _) (fun q => absurd q hz) (Nat.le_succ _) (Nat.le_succ _) (fun q => absurd q (nI_nn (by omega))))
  · refine e_aload_1 dL_law_553 rfl ?_
    refine e_bipush (v := nI 8) dL_law_554 rfl bc_8 ?_
    refine e_iload_9 dL_law_556 rfl ?_
    refine e_iconst (v := nI 0) dL_law_558 rfl ic_0 ?_
    refine e_iconst (v := nI 0) dL_law_559 rfl ic_0 ?_
    refine e_callW dL_law_560 rfl csL_117 (k_removeRule_nr hf h hn) rfl rfl ⟨Nat.le_of_ble_eq_true rfl, Nat.le_of_ble_eq_true rfl⟩ ⟨(by show _ ≤ 666358; omega), (by show _ ≤ 7096541; omega)⟩ rfl rfl (Nat.le_of_ble_eq_true rfl) ?_
    refine e_istore_14 dL_law_563 rfl (Nat.le_of_ble_eq_true rfl) rfl ?_
    refine e_iload_14 dL_law_565 rfl ?_
    refine e_if_lt_t (tgt := 921) dL_law_567 (by decide) (by decide) ?_
    refine e_weak (weak_c (weak_c (weak_c (weak_c (weak_c (weak_n (weak_c (weak_n (weak_n (weak_n (weak_n (weak_c (weak_c (weak_n (weak_c (weak_n (weak_n (weak_n weak_nil)))))))))))))))))) ?_
    exact e_wid (by omega) (by omega) (kk _ h (Nat.le_refl _) (fun q => absurd q hz) (Nat.le_succ _) (Nat.le_succ _) (fun _ => ⟨rfl, rfl⟩))
theorem ev_setLastDay {l : Launch} (hf : l.stackTraces = false) {nm : String} {hl : List (Nat × Nat × Nat × Nat)} {b Ln : Nat} {xs : Nat → Int32} {M : pmM} {od : Nat → Nat} {oc rc td g : Nat} {rg : Nat → Nat} {H : Nat} (h : IV M od oc rc td g rg H) {e ob ru po u : Nat} {gg hh ss : Int32} {z : Prop} (hg : g < 2 ^ 20) (hH : H < 2 ^ 20) (hu : u + 650 ≤ 666358) (hz : ¬ z) (kk : ∀ {N : pmM} {od' : Nat → Nat} {oc' rc' td' g' : Nat} {rg' : Nat → Nat} {H' : Nat} (told : Int32), IV N od' oc' rc' td' g' rg' H' → oc ≤ oc' → (z → oc < 8 → oc' = oc + 1) → g' ≤ g + 1 → H' ≤ H + 1 → (told < 0 → oc' = oc ∧ svS N od' oc' rc' td' rg' = svS M od oc rc td rg) → Ev l (kLaw nm hl) (gS b Ln xs) room_1 64 (u + 40) (6 * (u + 40)) 921 [some (.ref 1000), some (.ref 0), some (.int (nI oc')), some (.int (nI g')), some (.int (nI e)), none, some (.int hh), none, none, none, none, some (.long (svS M od oc rc td rg)), none, none, some (.int told), none, none, none] [] N) : Ev l (kLaw nm hl) (gS b Ln xs) room_1 64 u (6 * u) 594 [some (.ref 1000), some (.ref 0), some (.int (nI oc)), some (.int (nI g)), some (.int (nI e)), some (.int gg), some (.int hh), some (.int ss), some (.int (nI ob)), some (.int (nI ru)), some (.int (nI po)), some (.long (svS M od oc rc td rg)), none, some (.int (nI (acN M od rc))), some (.int (nI 0)), none, none, none] [] M := by
  have h8 := h.oc8
  have hr8 := h.rc8
  have ht9 := h.td9
  have hac := acN_le M od rc
  have kB : ∀ y : Int32, Ev l (kLaw nm hl) (gS b Ln xs) room_1 64 (u + 1) (6 * (u + 1)) 628 [some (.ref 1000), some (.ref 0), some (.int (nI oc)), some (.int (nI g)), some (.int (nI e)), some (.int gg), some (.int hh), some (.int ss), some (.int (nI ob)), some (.int (nI ru)), some (.int (nI po)), some (.long (svS M od oc rc td rg)), none, some (.int (nI (acN M od rc))), some (.int (nI 0)), none, none, none] [.int y, .int (nI ru), .int (nI 9), .ref 0] M := fun y => by
    rcases find_rule M od (nI ru) rc with ⟨p, hp, hx, -⟩ | hn
    · by_cases hy : y = -1 ∨ ∃ d : Nat, td ≤ d ∧ d ≤ 999 ∧ y = nI d
      · have hsd : SpH l kL_call 64 3 2 12 [.ref 0, .int (nI 9), .int (nI ru), .int y, .int (nI 0)] M (.inl (some (.int (M.1 (31 + 3 * od p) 3)))) (sdM M (od p) y) := by
          have k := k_setLastDay_ok (c0 := nI 0) hf h hp hy
          rwa [hx] at k
        refine e_iconst (v := nI 0) dL_law_628 rfl ic_0 ?_
        refine e_callW dL_law_629 rfl csL_117 hsd rfl rfl ⟨Nat.le_of_ble_eq_true rfl, Nat.le_of_ble_eq_true rfl⟩ ⟨(by show _ ≤ 666358; omega), (by show _ ≤ 7096541; omega)⟩ rfl rfl (Nat.le_of_ble_eq_true rfl) ?_
        refine e_istore_14 dL_law_632 rfl (Nat.le_of_ble_eq_true rfl) rfl ?_
        refine e_goto (tgt := 921) dL_law_634 (by decide) ?_
        refine e_weak (weak_c (weak_c (weak_c (weak_c (weak_c (weak_n (weak_c (weak_n (weak_n (weak_n (weak_n (weak_c (weak_c (weak_n (weak_c (weak_n (weak_n (weak_n weak_nil)))))))))))))))))) ?_
        exact e_wid (by omega) (by omega) (kk _ (h.setLastDay hp (hy.imp id (fun ⟨d, _, d2, d3⟩ => ⟨d, d2, d3⟩))) (Nat.le_refl _) (fun q => absurd q hz) (Nat.le_succ _) (Nat.le_succ _) (fun w => ⟨rfl, svS_sd h hp (by
          rcases (h.rule p hp).2.2.1 with e | ⟨d, d1, d2⟩
          · exact e
          · rw [d2] at w; exact absurd w (nI_nn (by omega))) hy⟩))
      · have hsd : SpH l kL_call 64 3 2 12 [.ref 0, .int (nI 9), .int (nI ru), .int y, .int (nI 0)] M (.inl (some (.int (-102)))) M := by
          have k := k_setLastDay_no2 (c0 := nI 0) hf h hp hy
          rwa [hx] at k
        refine e_iconst (v := nI 0) dL_law_628 rfl ic_0 ?_
        refine e_callW dL_law_629 rfl csL_117 hsd rfl rfl ⟨Nat.le_of_ble_eq_true rfl, Nat.le_of_ble_eq_true rfl⟩ ⟨(by show _ ≤ 666358; omega), (by show _ ≤ 7096541; omega)⟩ rfl rfl (Nat.le_of_ble_eq_true rfl) ?_
        refine e_istore_14 dL_law_632 rfl (Nat.le_of_ble_eq_true rfl) rfl ?_
        refine e_goto (tgt := 921) dL_law_634 (by decide) ?_
        refine e_weak (weak_c (weak_c (weak_c (weak_c (weak_c (weak_n (weak_c (weak_n (weak_n (weak_n (weak_n (weak_c (weak_c (weak_n (weak_c (weak_n (weak_n (weak_n weak_nil)))))))))))))))))) ?_
        exact e_wid (by omega) (by omega) (kk _ h (Nat.le_refl _) (fun q => absurd q hz) (Nat.le_succ _) (Nat.le_succ _) (fun _ => ⟨rfl, rfl⟩))
    · skip
      refine e_iconst (v := nI 0) dL_law_628 rfl ic_0 ?_
      refine e_callW dL_law_629 rfl csL_117 (k_setLastDay_nr hf h hn) rfl rfl ⟨Nat.le_of_ble_eq_true rfl, Nat.le_of_ble_eq_true rfl⟩ ⟨(by show _ ≤ 666358; omega), (by show _ ≤ 7096541; omega)⟩ rfl rfl (Nat.le_of_ble_eq_true rfl) ?_
      refine e_istore_14 dL_law_632 rfl (Nat.le_of_ble_eq_true rfl) rfl ?_
      refine e_goto (tgt := 921) dL_law_634 (by decide) ?_
      refine e_weak (weak_c (weak_c (weak_c (weak_c (weak_c (weak_n (weak_c (weak_n (weak_n (weak_n (weak_n (weak_c (weak_c (weak_n (weak_c (weak_n (weak_n (weak_n weak_nil)))))))))))))))))) ?_
      exact e_wid (by omega) (by omega) (kk _ h (Nat.le_refl _) (fun q => absurd q hz) (Nat.le_succ _) (Nat.le_succ _) (fun _ => ⟨rfl, rfl⟩))
  refine e_aload_1 dL_law_594 rfl ?_
  refine e_bipush (v := nI 9) dL_law_595 rfl bc_9 ?_
  refine e_iload_9 dL_law_597 rfl ?_
  refine e_iload_6 dL_law_599 rfl ?_
  refine e_iconst (v := nI 3) dL_law_601 rfl ic_3 ?_
  refine e_callS dL_law_602 rfl csL_129 (s_low (v := hh) (k := 3) hf (by omega) (by omega)) rfl rfl ⟨Nat.le_of_ble_eq_true rfl, Nat.le_of_ble_eq_true rfl⟩ ⟨(by show _ ≤ 666358; omega), (by show _ ≤ 7096541; omega)⟩ rfl rfl (Nat.le_of_ble_eq_true rfl) ?_
  refine e_if_ne (tgt := 612) dL_law_605 (by decide) rfl (fun _ => ?_) (fun _ => ?_)
  · refine e_aload_1 dL_law_612 rfl ?_
    refine e_callV dL_law_613 rfl csL_126 (s_day hf h.htd h.td9) rfl rfl ps_0 (by decide) (by decide) ⟨Nat.le_of_ble_eq_true rfl, Nat.le_of_ble_eq_true rfl⟩ ⟨(by show _ ≤ 666358; omega), (by show _ ≤ 7096541; omega)⟩ rfl rfl (Nat.le_of_ble_eq_true rfl) ?_
    refine e_iload_6 dL_law_616 rfl ?_
    refine e_iconst (v := nI 2) dL_law_618 rfl ic_2 ?_
    refine e_ishr dL_law_619 rfl ?_
    refine e_bipush (v := nI 6) dL_law_620 rfl bc_6 ?_
    refine e_callS dL_law_622 rfl csL_129 (s_low (v := hh >>> (nI 2 &&& 31)) (k := 6) hf (by omega) (by omega)) rfl rfl ⟨Nat.le_of_ble_eq_true rfl, Nat.le_of_ble_eq_true rfl⟩ ⟨(by show _ ≤ 666358; omega), (by show _ ≤ 7096541; omega)⟩ rfl rfl (Nat.le_of_ble_eq_true rfl) ?_
    refine e_iadd dL_law_625 rfl ?_
    refine e_topi (nI (td + lowN (hh >>> (nI 2 &&& 31)) (6))) (nI_add _ _) ?_
    refine e_iconst (v := nI 1) dL_law_626 rfl ic_1 ?_
    refine e_isub dL_law_627 rfl ?_
    exact e_wid (by omega) (by omega) (kB _)
  · refine e_iconst (v := -1) dL_law_608 rfl ic_m1 ?_
    refine e_goto (tgt := 628) dL_law_609 (by decide) ?_
    exact e_wid (by omega) (by omega) (kB _)
theorem ev_packet {l : Launch} (hf : l.stackTraces = false) {nm : String} {hl : List (Nat × Nat × Nat × Nat)} {b Ln : Nat} {xs : Nat → Int32} {M : pmM} {od : Nat → Nat} {oc rc td g : Nat} {rg : Nat → Nat} {H : Nat} (h : IV M od oc rc td g rg H) {e ob ru po u : Nat} {gg hh ss : Int32} {z : Prop} (hg : g < 2 ^ 20) (hH : H < 2 ^ 20) (hu : u + 650 ≤ 666358) (hz : ¬ z) (kk : ∀ {N : pmM} {od' : Nat → Nat} {oc' rc' td' g' : Nat} {rg' : Nat → Nat} {H' : Nat} (told : Int32), IV N od' oc' rc' td' g' rg' H' → oc ≤ oc' → (z → oc < 8 → oc' = oc + 1) → g' ≤ g + 1 → H' ≤ H + 1 → (told < 0 → oc' = oc ∧ svS N od' oc' rc' td' rg' = svS M od oc rc td rg) → Ev l (kLaw nm hl) (gS b Ln xs) room_1 64 (u + 40) (6 * (u + 40)) 921 [some (.ref 1000), some (.ref 0), some (.int (nI oc')), some (.int (nI g')), some (.int (nI e)), none, some (.int hh), none, none, none, none, some (.long (svS M od oc rc td rg)), none, none, some (.int told), none, none, none] [] N) : Ev l (kLaw nm hl) (gS b Ln xs) room_1 64 u (6 * u) 644 [some (.ref 1000), some (.ref 0), some (.int (nI oc)), some (.int (nI g)), some (.int (nI e)), some (.int gg), some (.int hh), some (.int ss), some (.int (nI ob)), some (.int (nI ru)), some (.int (nI po)), some (.long (svS M od oc rc td rg)), none, some (.int (nI (acN M od rc))), some (.int (nI 0)), none, none, none] [] M := by
  have h8 := h.oc8
  have hr8 := h.rc8
  have ht9 := h.td9
  have hac := acN_le M od rc
  have ha := lowN_lt hh (show 0 < 32 by decide)
  have hb := lowN_lt (hh >>> (nI 5 &&& 31)) (show 0 < 32 by decide)
  have hc := lowN_lt (hh >>> (nI 10 &&& 31)) (show 0 < 32 by decide)
  refine e_aload_1 dL_law_644 rfl ?_
  refine e_bipush (v := nI 14) dL_law_645 rfl bd_14 ?_
  refine e_iload_6 dL_law_647 rfl ?_
  refine e_bipush (v := nI 32) dL_law_649 rfl bc_32 ?_
  refine e_callS dL_law_651 rfl csL_129 (s_low (v := hh) (k := 32) hf (by omega) (by omega)) rfl rfl ⟨Nat.le_of_ble_eq_true rfl, Nat.le_of_ble_eq_true rfl⟩ ⟨(by show _ ≤ 666358; omega), (by show _ ≤ 7096541; omega)⟩ rfl rfl (Nat.le_of_ble_eq_true rfl) ?_
  refine e_iload_6 dL_law_654 rfl ?_
  refine e_iconst (v := nI 5) dL_law_656 rfl ic_5 ?_
  refine e_ishr dL_law_657 rfl ?_
  refine e_bipush (v := nI 32) dL_law_658 rfl bc_32 ?_
  refine e_callS dL_law_660 rfl csL_129 (s_low (v := hh >>> (nI 5 &&& 31)) (k := 32) hf (by omega) (by omega)) rfl rfl ⟨Nat.le_of_ble_eq_true rfl, Nat.le_of_ble_eq_true rfl⟩ ⟨(by show _ ≤ 666358; omega), (by show _ ≤ 7096541; omega)⟩ rfl rfl (Nat.le_of_ble_eq_true rfl) ?_
  refine e_iload_6 dL_law_663 rfl ?_
  refine e_bipush (v := nI 10) dL_law_665 rfl bd_10 ?_
  refine e_ishr dL_law_667 rfl ?_
  refine e_bipush (v := nI 32) dL_law_668 rfl bc_32 ?_
  refine e_callS dL_law_670 rfl csL_129 (s_low (v := hh >>> (nI 10 &&& 31)) (k := 32) hf (by omega) (by omega)) rfl rfl ⟨Nat.le_of_ble_eq_true rfl, Nat.le_of_ble_eq_true rfl⟩ ⟨(by show _ ≤ 666358; omega), (by show _ ≤ 7096541; omega)⟩ rfl rfl (Nat.le_of_ble_eq_true rfl) ?_
  rcases find_dec M od (lowN hh 32) (lowN (hh >>> (nI 5 &&& 31)) 32) (lowN (hh >>> (nI 10 &&& 31)) 32) rc with ⟨p, hp, hx, hn⟩ | hn
  · have hN := h.packet hp (M.1 0 5)
    obtain ⟨⟨n, n1, n2⟩, a97, -, ⟨x, y, y1, y2, y3, y4⟩, -⟩ := h.rule p hp
    have e5 : (hiM M (od p) (M.1 0 5)).1 (31 + 3 * od p) 5 = nI (x + 1) := by
      rw [hi_at, if_neg (by omega), if_pos ⟨rfl, rfl⟩, y3, nI_add]
    have e0 : (hiM M (od p) (M.1 0 5)).1 (31 + 3 * od p) 0 = nI n := by
      rw [hi_at, if_neg (by omega), if_neg (by omega), if_neg (by omega), n2]
    have eid : idE (hiM M (od p) (M.1 0 5)) (od p) = nI 0 := by
      have h05 : (hiM M (od p) (M.1 0 5)).1 0 5 = nI td := by rw [hi_at, if_neg (by omega), if_neg (by omega), if_neg (by omega)]; exact h.htd
      have h7 : (hiM M (od p) (M.1 0 5)).1 (31 + 3 * od p) 7 = nI td := by rw [hi_at, if_pos ⟨rfl, rfl⟩]; exact h.htd
      unfold idE
      rw [h7, h05, if_neg (fun w => by have := nI_nn (show td < 2 ^ 31 by omega); rw [w] at this; exact this (by decide)), pk_sub (Nat.le_refl _), Nat.sub_self]
    have kd : SpH l kL_call 64 4 3 18 [.ref 0, .int (nI 14), .int (nI (lowN hh 32)), .int (nI (lowN (hh >>> (nI 5 &&& 31)) 32)), .int (nI (lowN (hh >>> (nI 10 &&& 31)) 32))] M (.inl (some (.int (nI n)))) M := by
      have k := k_decider_ok hf h ha hb hc hp hx hn
      rwa [n2] at k
    have kh : SpH l kL_call 64 3 1 6 [.ref 0, .int (nI 15), .int (nI n), .int (nI 0), .int (nI 0)] M (.inl (some (.int (nI x)))) M := by
      have k := k_hits (c0 := nI 0) (c1 := nI 0) hf h hp
      rwa [n2, y3] at k
    have kh2 : SpH l kL_call 64 3 1 6 [.ref 0, .int (nI 15), .int (nI n), .int (nI 0), .int (nI 0)] (hiM M (od p) (M.1 0 5)) (.inl (some (.int (nI (x + 1))))) (hiM M (od p) (M.1 0 5)) := by
      have k := k_hits (c0 := nI 0) (c1 := nI 0) hf hN hp
      rwa [e0, e5] at k
    have ki2 : SpH l kL_call 64 3 1 6 [.ref 0, .int (nI 17), .int (nI n), .int (nI 0), .int (nI 0)] (hiM M (od p) (M.1 0 5)) (.inl (some (.int (nI 0)))) (hiM M (od p) (M.1 0 5)) := by
      have k := k_idleDays (c0 := nI 0) (c1 := nI 0) hf hN hp
      rwa [e0, eid] at k
    refine e_callW dL_law_673 rfl csL_117 kd rfl rfl ⟨Nat.le_of_ble_eq_true rfl, Nat.le_of_ble_eq_true rfl⟩ ⟨(by show _ ≤ 666358; omega), (by show _ ≤ 7096541; omega)⟩ rfl rfl (Nat.le_of_ble_eq_true rfl) ?_
    refine e_istore_15 dL_law_676 rfl (Nat.le_of_ble_eq_true rfl) rfl ?_
    refine e_aload_1 dL_law_678 rfl ?_
    refine e_bipush (v := nI 15) dL_law_679 rfl bd_15 ?_
    refine e_iload_15 dL_law_681 rfl ?_
    refine e_iconst (v := nI 0) dL_law_683 rfl ic_0 ?_
    refine e_iconst (v := nI 0) dL_law_684 rfl ic_0 ?_
    refine e_callW dL_law_685 rfl csL_117 kh rfl rfl ⟨Nat.le_of_ble_eq_true rfl, Nat.le_of_ble_eq_true rfl⟩ ⟨(by show _ ≤ 666358; omega), (by show _ ≤ 7096541; omega)⟩ rfl rfl (Nat.le_of_ble_eq_true rfl) ?_
    refine e_istore_16 dL_law_688 rfl (Nat.le_of_ble_eq_true rfl) rfl ?_
    refine e_aload_1 dL_law_690 rfl ?_
    refine e_bipush (v := nI 13) dL_law_691 rfl bd_13 ?_
    refine e_iload_6 dL_law_693 rfl ?_
    refine e_bipush (v := nI 32) dL_law_695 rfl bc_32 ?_
    refine e_callS dL_law_697 rfl csL_129 (s_low (v := hh) (k := 32) hf (by omega) (by omega)) rfl rfl ⟨Nat.le_of_ble_eq_true rfl, Nat.le_of_ble_eq_true rfl⟩ ⟨(by show _ ≤ 666358; omega), (by show _ ≤ 7096541; omega)⟩ rfl rfl (Nat.le_of_ble_eq_true rfl) ?_
    refine e_iload_6 dL_law_700 rfl ?_
    refine e_iconst (v := nI 5) dL_law_702 rfl ic_5 ?_
    refine e_ishr dL_law_703 rfl ?_
    refine e_bipush (v := nI 32) dL_law_704 rfl bc_32 ?_
    refine e_callS dL_law_706 rfl csL_129 (s_low (v := hh >>> (nI 5 &&& 31)) (k := 32) hf (by omega) (by omega)) rfl rfl ⟨Nat.le_of_ble_eq_true rfl, Nat.le_of_ble_eq_true rfl⟩ ⟨(by show _ ≤ 666358; omega), (by show _ ≤ 7096541; omega)⟩ rfl rfl (Nat.le_of_ble_eq_true rfl) ?_
    refine e_iload_6 dL_law_709 rfl ?_
    refine e_bipush (v := nI 10) dL_law_711 rfl bd_10 ?_
    refine e_ishr dL_law_713 rfl ?_
    refine e_bipush (v := nI 32) dL_law_714 rfl bc_32 ?_
    refine e_callS dL_law_716 rfl csL_129 (s_low (v := hh >>> (nI 10 &&& 31)) (k := 32) hf (by omega) (by omega)) rfl rfl ⟨Nat.le_of_ble_eq_true rfl, Nat.le_of_ble_eq_true rfl⟩ ⟨(by show _ ≤ 666358; omega), (by show _ ≤ 7096541; omega)⟩ rfl rfl (Nat.le_of_ble_eq_true rfl) ?_
    refine e_callW dL_law_719 rfl csL_117 (k_packet_ok hf h ha hb hc hp hx hn) rfl rfl ⟨Nat.le_of_ble_eq_true rfl, Nat.le_of_ble_eq_true rfl⟩ ⟨(by show _ ≤ 666358; omega), (by show _ ≤ 7096541; omega)⟩ rfl rfl (Nat.le_of_ble_eq_true rfl) ?_
    refine e_istore_14 dL_law_722 rfl (Nat.le_of_ble_eq_true rfl) rfl ?_
    refine e_iload_15 dL_law_724 rfl ?_
    refine e_if_lt_f dL_law_726 rfl ⟨759, by decide⟩ (nI_nn (by omega)) ?_
    refine e_aload_1 dL_law_729 rfl ?_
    refine e_bipush (v := nI 15) dL_law_730 rfl bd_15 ?_
    refine e_iload_15 dL_law_732 rfl ?_
    refine e_iconst (v := nI 0) dL_law_734 rfl ic_0 ?_
    refine e_iconst (v := nI 0) dL_law_735 rfl ic_0 ?_
    refine e_callW dL_law_736 rfl csL_117 kh2 rfl rfl ⟨Nat.le_of_ble_eq_true rfl, Nat.le_of_ble_eq_true rfl⟩ ⟨(by show _ ≤ 666358; omega), (by show _ ≤ 7096541; omega)⟩ rfl rfl (Nat.le_of_ble_eq_true rfl) ?_
    refine e_iload_16 dL_law_739 rfl ?_
    refine e_iconst (v := nI 1) dL_law_741 rfl ic_1 ?_
    refine e_iadd dL_law_742 rfl ?_
    refine e_topi (nI (x + 1)) (nI_add _ _) ?_
    refine e_nc_ne_f dL_law_743 rfl ⟨771, by decide⟩ (by omega) (by omega) rfl ?_
    refine e_aload_1 dL_law_746 rfl ?_
    refine e_bipush (v := nI 17) dL_law_747 rfl bd_17 ?_
    refine e_iload_15 dL_law_749 rfl ?_
    refine e_iconst (v := nI 0) dL_law_751 rfl ic_0 ?_
    refine e_iconst (v := nI 0) dL_law_752 rfl ic_0 ?_
    refine e_callW dL_law_753 rfl csL_117 ki2 rfl rfl ⟨Nat.le_of_ble_eq_true rfl, Nat.le_of_ble_eq_true rfl⟩ ⟨(by show _ ≤ 666358; omega), (by show _ ≤ 7096541; omega)⟩ rfl rfl (Nat.le_of_ble_eq_true rfl) ?_
    refine e_if_ne_f dL_law_756 rfl ⟨771, by decide⟩ rfl ?_
    refine e_iload_15 dL_law_759 rfl ?_
    refine e_if_ge_t (tgt := 773) dL_law_761 (by decide) ((nI_leI (a := 0) (by decide) (by omega)).mpr (Nat.zero_le n)) ?_
    refine e_goto (tgt := 921) dL_law_773 (by decide) ?_
    refine e_weak (weak_c (weak_c (weak_c (weak_c (weak_c (weak_n (weak_c (weak_n (weak_n (weak_n (weak_n (weak_c (weak_c (weak_n (weak_c (weak_n (weak_n (weak_n weak_nil)))))))))))))))))) ?_
    exact e_wid (by omega) (by omega) (kk _ hN (Nat.le_refl _) (fun q => absurd q hz) (Nat.le_succ _) (Nat.le_refl _) (fun w => absurd w (by rcases a97 with e | e <;> rw [e] <;> decide)))
  · have hno : ∀ q, q < rc → M.1 (31 + 3 * od q) 0 ≠ -1 := fun q hq w => by
      obtain ⟨⟨n, n1, n2⟩, -⟩ := h.rule q hq
      have := nI_nn (show n < 2 ^ 31 by omega)
      rw [← n2, w] at this
      exact this (by decide)
    refine e_callW dL_law_673 rfl csL_117 (k_decider_no hf h ha hb hc hn) rfl rfl ⟨Nat.le_of_ble_eq_true rfl, Nat.le_of_ble_eq_true rfl⟩ ⟨(by show _ ≤ 666358; omega), (by show _ ≤ 7096541; omega)⟩ rfl rfl (Nat.le_of_ble_eq_true rfl) ?_
    refine e_istore_15 dL_law_676 rfl (Nat.le_of_ble_eq_true rfl) rfl ?_
    refine e_aload_1 dL_law_678 rfl ?_
    refine e_bipush (v := nI 15) dL_law_679 rfl bd_15 ?_
    refine e_iload_15 dL_law_681 rfl ?_
    refine e_iconst (v := nI 0) dL_law_683 rfl ic_0 ?_
    refine e_iconst (v := nI 0) dL_law_684 rfl ic_0 ?_
    refine e_callW dL_law_685 rfl csL_117 (k_hits_nr hf h hno) rfl rfl ⟨Nat.le_of_ble_eq_true rfl, Nat.le_of_ble_eq_true rfl⟩ ⟨(by show _ ≤ 666358; omega), (by show _ ≤ 7096541; omega)⟩ rfl rfl (Nat.le_of_ble_eq_true rfl) ?_
    refine e_istore_16 dL_law_688 rfl (Nat.le_of_ble_eq_true rfl) rfl ?_
    refine e_aload_1 dL_law_690 rfl ?_
    refine e_bipush (v := nI 13) dL_law_691 rfl bd_13 ?_
    refine e_iload_6 dL_law_693 rfl ?_
    refine e_bipush (v := nI 32) dL_law_695 rfl bc_32 ?_
    refine e_callS dL_law_697 rfl csL_129 (s_low (v := hh) (k := 32) hf (by omega) (by omega)) rfl rfl ⟨Nat.le_of_ble_eq_true rfl, Nat.le_of_ble_eq_true rfl⟩ ⟨(by show _ ≤ 666358; omega), (by show _ ≤ 7096541; omega)⟩ rfl rfl (Nat.le_of_ble_eq_true rfl) ?_
    refine e_iload_6 dL_law_700 rfl ?_
    refine e_iconst (v := nI 5) dL_law_702 rfl ic_5 ?_
    refine e_ishr dL_law_703 rfl ?_
    refine e_bipush (v := nI 32) dL_law_704 rfl bc_32 ?_
    refine e_callS dL_law_706 rfl csL_129 (s_low (v := hh >>> (nI 5 &&& 31)) (k := 32) hf (by omega) (by omega)) rfl rfl ⟨Nat.le_of_ble_eq_true rfl, Nat.le_of_ble_eq_true rfl⟩ ⟨(by show _ ≤ 666358; omega), (by show _ ≤ 7096541; omega)⟩ rfl rfl (Nat.le_of_ble_eq_true rfl) ?_
    refine e_iload_6 dL_law_709 rfl ?_
    refine e_bipush (v := nI 10) dL_law_711 rfl bd_10 ?_
    refine e_ishr dL_law_713 rfl ?_
    refine e_bipush (v := nI 32) dL_law_714 rfl bc_32 ?_
    refine e_callS dL_law_716 rfl csL_129 (s_low (v := hh >>> (nI 10 &&& 31)) (k := 32) hf (by omega) (by omega)) rfl rfl ⟨Nat.le_of_ble_eq_true rfl, Nat.le_of_ble_eq_true rfl⟩ ⟨(by show _ ≤ 666358; omega), (by show _ ≤ 7096541; omega)⟩ rfl rfl (Nat.le_of_ble_eq_true rfl) ?_
    refine e_callW dL_law_719 rfl csL_117 (k_packet_no hf h ha hb hc hn) rfl rfl ⟨Nat.le_of_ble_eq_true rfl, Nat.le_of_ble_eq_true rfl⟩ ⟨(by show _ ≤ 666358; omega), (by show _ ≤ 7096541; omega)⟩ rfl rfl (Nat.le_of_ble_eq_true rfl) ?_
    refine e_istore_14 dL_law_722 rfl (Nat.le_of_ble_eq_true rfl) rfl ?_
    refine e_iload_15 dL_law_724 rfl ?_
    refine e_if_lt_t (tgt := 759) dL_law_726 (by decide) (by decide) ?_
    refine e_iload_15 dL_law_759 rfl ?_
    refine e_if_ge_f dL_law_761 rfl ⟨773, by decide⟩ (by decide) ?_
    refine e_iload_14 dL_law_764 rfl ?_
    refine e_bipush (v := nI 100) dL_law_766 rfl bc_100 ?_
    refine e_nc_eq_t (tgt := 773) dL_law_768 (by decide) (by omega) (by omega) rfl ?_
    refine e_goto (tgt := 921) dL_law_773 (by decide) ?_
    refine e_weak (weak_c (weak_c (weak_c (weak_c (weak_c (weak_n (weak_c (weak_n (weak_n (weak_n (weak_n (weak_c (weak_c (weak_n (weak_c (weak_n (weak_n (weak_n weak_nil)))))))))))))))))) ?_
    exact e_wid (by omega) (by omega) (kk _ h (Nat.le_refl _) (fun q => absurd q hz) (Nat.le_succ _) (Nat.le_succ _) (fun q => absurd q (nI_nn (by decide))))
theorem ev_pass {l : Launch} (hf : l.stackTraces = false) {nm : String} {hl : List (Nat × Nat × Nat × Nat)} {b Ln : Nat} {xs : Nat → Int32} {M : pmM} {od : Nat → Nat} {oc rc td g : Nat} {rg : Nat → Nat} {H : Nat} (h : IV M od oc rc td g rg H) {e ob ru po u : Nat} {gg hh ss : Int32} {z : Prop} (hg : g < 2 ^ 20) (hH : H < 2 ^ 20) (hu : u + 650 ≤ 666358) (hz : ¬ z) (kk : ∀ {N : pmM} {od' : Nat → Nat} {oc' rc' td' g' : Nat} {rg' : Nat → Nat} {H' : Nat} (told : Int32), IV N od' oc' rc' td' g' rg' H' → oc ≤ oc' → (z → oc < 8 → oc' = oc + 1) → g' ≤ g + 1 → H' ≤ H + 1 → (told < 0 → oc' = oc ∧ svS N od' oc' rc' td' rg' = svS M od oc rc td rg) → Ev l (kLaw nm hl) (gS b Ln xs) room_1 64 (u + 40) (6 * (u + 40)) 921 [some (.ref 1000), some (.ref 0), some (.int (nI oc')), some (.int (nI g')), some (.int (nI e)), none, some (.int hh), none, none, none, none, some (.long (svS M od oc rc td rg)), none, none, some (.int told), none, none, none] [] N) : Ev l (kLaw nm hl) (gS b Ln xs) room_1 64 u (6 * u) 783 [some (.ref 1000), some (.ref 0), some (.int (nI oc)), some (.int (nI g)), some (.int (nI e)), some (.int gg), some (.int hh), some (.int ss), some (.int (nI ob)), some (.int (nI ru)), some (.int (nI po)), some (.long (svS M od oc rc td rg)), none, some (.int (nI (acN M od rc))), some (.int (nI 0)), none, none, none] [] M := by
  have h8 := h.oc8
  have hr8 := h.rc8
  have ht9 := h.td9
  have hac := acN_le M od rc
  have hd := lowN_lt hh (show 0 < 3 by decide)
  refine e_aload_1 dL_law_783 rfl ?_
  refine e_bipush (v := nI 18) dL_law_784 rfl bd_18 ?_
  refine e_iload_6 dL_law_786 rfl ?_
  refine e_iconst (v := nI 3) dL_law_788 rfl ic_3 ?_
  refine e_callS dL_law_789 rfl csL_129 (s_low (v := hh) (k := 3) hf (by omega) (by omega)) rfl rfl ⟨Nat.le_of_ble_eq_true rfl, Nat.le_of_ble_eq_true rfl⟩ ⟨(by show _ ≤ 666358; omega), (by show _ ≤ 7096541; omega)⟩ rfl rfl (Nat.le_of_ble_eq_true rfl) ?_
  generalize lowN hh 3 = d at hd ⊢
  by_cases q : d = 0
  · skip
    refine e_iconst (v := nI 0) dL_law_792 rfl ic_0 ?_
    refine e_iconst (v := nI 0) dL_law_793 rfl ic_0 ?_
    refine e_callW dL_law_794 rfl csL_117 (k_pass_no1 hf h (fun v h1 h2 w => by have := (nI_eq (by omega) (by omega)).mp w; omega)) rfl rfl ⟨Nat.le_of_ble_eq_true rfl, Nat.le_of_ble_eq_true rfl⟩ ⟨(by show _ ≤ 666358; omega), (by show _ ≤ 7096541; omega)⟩ rfl rfl (Nat.le_of_ble_eq_true rfl) ?_
    refine e_istore_14 dL_law_797 rfl (Nat.le_of_ble_eq_true rfl) rfl ?_
    refine e_goto (tgt := 921) dL_law_799 (by decide) ?_
    refine e_weak (weak_c (weak_c (weak_c (weak_c (weak_c (weak_n (weak_c (weak_n (weak_n (weak_n (weak_n (weak_c (weak_c (weak_n (weak_c (weak_n (weak_n (weak_n weak_nil)))))))))))))))))) ?_
    exact e_wid (by omega) (by omega) (kk _ h (Nat.le_refl _) (fun q => absurd q hz) (Nat.le_succ _) (Nat.le_succ _) (fun _ => ⟨rfl, rfl⟩))
  · by_cases q2 : td + d ≤ 999
    · skip
      refine e_iconst (v := nI 0) dL_law_792 rfl ic_0 ?_
      refine e_iconst (v := nI 0) dL_law_793 rfl ic_0 ?_
      refine e_callW dL_law_794 rfl csL_117 (k_pass_ok hf h (by omega) (by omega) q2) rfl rfl ⟨Nat.le_of_ble_eq_true rfl, Nat.le_of_ble_eq_true rfl⟩ ⟨(by show _ ≤ 666358; omega), (by show _ ≤ 7096541; omega)⟩ rfl rfl (Nat.le_of_ble_eq_true rfl) ?_
      refine e_istore_14 dL_law_797 rfl (Nat.le_of_ble_eq_true rfl) rfl ?_
      refine e_goto (tgt := 921) dL_law_799 (by decide) ?_
      refine e_weak (weak_c (weak_c (weak_c (weak_c (weak_c (weak_n (weak_c (weak_n (weak_n (weak_n (weak_n (weak_c (weak_c (weak_n (weak_c (weak_n (weak_n (weak_n weak_nil)))))))))))))))))) ?_
      exact e_wid (by omega) (by omega) (kk _ (h.pass q2) (Nat.le_refl _) (fun q => absurd q hz) (Nat.le_succ _) (Nat.le_succ _) (fun q => absurd q (nI_nn (by omega))))
    · skip
      refine e_iconst (v := nI 0) dL_law_792 rfl ic_0 ?_
      refine e_iconst (v := nI 0) dL_law_793 rfl ic_0 ?_
      refine e_callW dL_law_794 rfl csL_117 (k_pass_no2 hf h (by omega) (by omega) (by omega)) rfl rfl ⟨Nat.le_of_ble_eq_true rfl, Nat.le_of_ble_eq_true rfl⟩ ⟨(by show _ ≤ 666358; omega), (by show _ ≤ 7096541; omega)⟩ rfl rfl (Nat.le_of_ble_eq_true rfl) ?_
      refine e_istore_14 dL_law_797 rfl (Nat.le_of_ble_eq_true rfl) rfl ?_
      refine e_goto (tgt := 921) dL_law_799 (by decide) ?_
      refine e_weak (weak_c (weak_c (weak_c (weak_c (weak_c (weak_n (weak_c (weak_n (weak_n (weak_n (weak_n (weak_c (weak_c (weak_n (weak_c (weak_n (weak_n (weak_n weak_nil)))))))))))))))))) ?_
      exact e_wid (by omega) (by omega) (kk _ h (Nat.le_refl _) (fun q => absurd q hz) (Nat.le_succ _) (Nat.le_succ _) (fun _ => ⟨rfl, rfl⟩))
theorem ev_move {l : Launch} (hf : l.stackTraces = false) {nm : String} {hl : List (Nat × Nat × Nat × Nat)} {b Ln : Nat} {xs : Nat → Int32} {M : pmM} {od : Nat → Nat} {oc rc td g : Nat} {rg : Nat → Nat} {H : Nat} (h : IV M od oc rc td g rg H) {e ob ru po u : Nat} {gg hh ss : Int32} {z : Prop} (hg : g < 2 ^ 20) (hH : H < 2 ^ 20) (hu : u + 650 ≤ 666358) (hpo : po < rc ∨ rc = 0) (hz : ¬ z) (kk : ∀ {N : pmM} {od' : Nat → Nat} {oc' rc' td' g' : Nat} {rg' : Nat → Nat} {H' : Nat} (told : Int32), IV N od' oc' rc' td' g' rg' H' → oc ≤ oc' → (z → oc < 8 → oc' = oc + 1) → g' ≤ g + 1 → H' ≤ H + 1 → (told < 0 → oc' = oc ∧ svS N od' oc' rc' td' rg' = svS M od oc rc td rg) → Ev l (kLaw nm hl) (gS b Ln xs) room_1 64 (u + 40) (6 * (u + 40)) 921 [some (.ref 1000), some (.ref 0), some (.int (nI oc')), some (.int (nI g')), some (.int (nI e)), none, some (.int hh), none, none, none, none, some (.long (svS M od oc rc td rg)), none, none, some (.int told), none, none, none] [] N) : Ev l (kLaw nm hl) (gS b Ln xs) room_1 64 u (6 * u) 809 [some (.ref 1000), some (.ref 0), some (.int (nI oc)), some (.int (nI g)), some (.int (nI e)), some (.int gg), some (.int hh), some (.int ss), some (.int (nI ob)), some (.int (nI ru)), some (.int (nI po)), some (.long (svS M od oc rc td rg)), none, some (.int (nI (acN M od rc))), some (.int (nI 0)), none, none, none] [] M := by
  have h8 := h.oc8
  have hr8 := h.rc8
  have ht9 := h.td9
  have hac := acN_le M od rc
  rcases find_rule M od (nI ru) rc with ⟨p, hp, hx, -⟩ | hn
  · have hq : po < rc := by omega
    have kc : SpH l kL_call 64 15 2 12 [.ref 0, .int (nI 24), .int (nI ru), .int (nI po), .int (nI 0)] M (.inl (some (.int (chE M od p po)))) M := by
      have k := k_chMove (c0 := nI 0) hf h hp hq
      rwa [hx] at k
    obtain ⟨C, hC8, hC⟩ : ∃ C, C ≤ 32768 ∧ chE M od p po = nI C := ⟨_, cn3_le _, ch_nI h.hac hr8 hp hq⟩
    by_cases hz0 : chE M od p po = 0
    · have hN := h.shift hp hq
      have km : SpH l kL_call 64 15 3 18 [.ref 0, .int (nI 25), .int (nI ru), .int (nI po), .int (nI 0)] M (.inl (some (.int (nI p)))) (odM M (shO od p po)) := by
        have k := k_move_ok (c0 := nI 0) hf h hp hq hz0
        rwa [hx] at k
      have hacc : Sp l kX3_accepted 64 13 0 0 [.ref 0] (odM M (shO od p po)) (.inl (some (.int (nI (acN M od rc))))) (odM M (shO od p po)) := by
        have k := s_accepted hf hN.mr hN.od8 hN.hrc hr8
        rwa [ac_nI _ _ hr8, show acN (odM M (shO od p po)) (shO od p po) rc = acN M od rc from cn3_congr (fun x y w hx hy hw => ch_zero h.hac hr8 hp hq hz0 hx hy hw)] at k
      have kr : SpH l kL_call 64 3 1 6 [.ref 0, .int (nI 10), .int (nI po), .int (nI 0), .int (nI 0)] (odM M (shO od p po)) (.inl (some (.int (nI ru)))) (odM M (shO od p po)) := by
        have k := k_ruleAt (c0 := nI 0) (c1 := nI 0) hf hN hq
        rwa [show (odM M (shO od p po)).1 (31 + 3 * shO od p po po) 0 = nI ru by rw [shO_sg, sg_to]; exact hx] at k
      rw [hz0] at kc
      refine e_aload_1 dL_law_809 rfl ?_
      refine e_bipush (v := nI 24) dL_law_810 rfl bc_24 ?_
      refine e_iload_9 dL_law_812 rfl ?_
      refine e_iload_10 dL_law_814 rfl ?_
      refine e_iconst (v := nI 0) dL_law_816 rfl ic_0 ?_
      refine e_callW dL_law_817 rfl csL_117 kc rfl rfl ⟨Nat.le_of_ble_eq_true rfl, Nat.le_of_ble_eq_true rfl⟩ ⟨(by show _ ≤ 666358; omega), (by show _ ≤ 7096541; omega)⟩ rfl rfl (Nat.le_of_ble_eq_true rfl) ?_
      refine e_istore_15 dL_law_820 rfl (Nat.le_of_ble_eq_true rfl) rfl ?_
      refine e_aload_1 dL_law_822 rfl ?_
      refine e_bipush (v := nI 25) dL_law_823 rfl bd_25 ?_
      refine e_iload_9 dL_law_825 rfl ?_
      refine e_iload_10 dL_law_827 rfl ?_
      refine e_iconst (v := nI 0) dL_law_829 rfl ic_0 ?_
      refine e_callW dL_law_830 rfl csL_117 km rfl rfl ⟨Nat.le_of_ble_eq_true rfl, Nat.le_of_ble_eq_true rfl⟩ ⟨(by show _ ≤ 666358; omega), (by show _ ≤ 7096541; omega)⟩ rfl rfl (Nat.le_of_ble_eq_true rfl) ?_
      refine e_istore_14 dL_law_833 rfl (Nat.le_of_ble_eq_true rfl) rfl ?_
      refine e_iload_14 dL_law_835 rfl ?_
      refine e_if_lt_f dL_law_837 rfl ⟨844, by decide⟩ (nI_nn (by omega)) ?_
      refine e_iconst (v := nI 1) dL_law_840 rfl ic_1 ?_
      refine e_goto (tgt := 845) dL_law_841 (by decide) ?_
      refine e_iload_15 dL_law_845 rfl ?_
      refine e_if_ne_f dL_law_847 rfl ⟨854, by decide⟩ rfl ?_
      refine e_iconst (v := nI 1) dL_law_850 rfl ic_1 ?_
      refine e_goto (tgt := 855) dL_law_851 (by decide) ?_
      refine e_nc_ne_f dL_law_855 rfl ⟨887, by decide⟩ (by omega) (by omega) rfl ?_
      refine e_aload_1 dL_law_858 rfl ?_
      refine e_callV dL_law_859 rfl csL_133 hacc rfl rfl ps_0 (by decide) (by decide) ⟨Nat.le_of_ble_eq_true rfl, Nat.le_of_ble_eq_true rfl⟩ ⟨(by show _ ≤ 666358; omega), (by show _ ≤ 7096541; omega)⟩ rfl rfl (Nat.le_of_ble_eq_true rfl) ?_
      refine e_iload_13 dL_law_862 rfl ?_
      refine e_nc_ne_f dL_law_864 rfl ⟨887, by decide⟩ (by omega) (by omega) rfl ?_
      refine e_iload_14 dL_law_867 rfl ?_
      refine e_if_lt_f dL_law_869 rfl ⟨889, by decide⟩ (nI_nn (by omega)) ?_
      refine e_aload_1 dL_law_872 rfl ?_
      refine e_bipush (v := nI 10) dL_law_873 rfl bd_10 ?_
      refine e_iload_10 dL_law_875 rfl ?_
      refine e_iconst (v := nI 0) dL_law_877 rfl ic_0 ?_
      refine e_iconst (v := nI 0) dL_law_878 rfl ic_0 ?_
      refine e_callW dL_law_879 rfl csL_117 kr rfl rfl ⟨Nat.le_of_ble_eq_true rfl, Nat.le_of_ble_eq_true rfl⟩ ⟨(by show _ ≤ 666358; omega), (by show _ ≤ 7096541; omega)⟩ rfl rfl (Nat.le_of_ble_eq_true rfl) ?_
      refine e_iload_9 dL_law_882 rfl ?_
      refine e_ic_eq_t (tgt := 889) dL_law_884 (by decide) rfl ?_
      refine e_goto (tgt := 921) dL_law_889 (by decide) ?_
      refine e_weak (weak_c (weak_c (weak_c (weak_c (weak_c (weak_n (weak_c (weak_n (weak_n (weak_n (weak_n (weak_c (weak_c (weak_n (weak_c (weak_n (weak_n (weak_n weak_nil)))))))))))))))))) ?_
      exact e_wid (by omega) (by omega) (kk _ hN (Nat.le_refl _) (fun q => absurd q hz) (Nat.le_succ _) (Nat.le_succ _) (fun q => absurd q (nI_nn (by omega))))
    · have km : SpH l kL_call 64 15 3 18 [.ref 0, .int (nI 25), .int (nI ru), .int (nI po), .int (nI 0)] M (.inl (some (.int (-104)))) M := by
        have k := k_move_no (c0 := nI 0) hf h hp hq hz0
        rwa [hx] at k
      have hacc : Sp l kX3_accepted 64 13 0 0 [.ref 0] M (.inl (some (.int (nI (acN M od rc))))) M := by
        have k := s_accepted hf h.mr h.od8 h.hrc hr8
        rwa [ac_nI _ _ hr8] at k
      refine e_aload_1 dL_law_809 rfl ?_
      refine e_bipush (v := nI 24) dL_law_810 rfl bc_24 ?_
      refine e_iload_9 dL_law_812 rfl ?_
      refine e_iload_10 dL_law_814 rfl ?_
      refine e_iconst (v := nI 0) dL_law_816 rfl ic_0 ?_
      refine e_callW dL_law_817 rfl csL_117 kc rfl rfl ⟨Nat.le_of_ble_eq_true rfl, Nat.le_of_ble_eq_true rfl⟩ ⟨(by show _ ≤ 666358; omega), (by show _ ≤ 7096541; omega)⟩ rfl rfl (Nat.le_of_ble_eq_true rfl) ?_
      refine e_istore_15 dL_law_820 rfl (Nat.le_of_ble_eq_true rfl) rfl ?_
      refine e_aload_1 dL_law_822 rfl ?_
      refine e_bipush (v := nI 25) dL_law_823 rfl bd_25 ?_
      refine e_iload_9 dL_law_825 rfl ?_
      refine e_iload_10 dL_law_827 rfl ?_
      refine e_iconst (v := nI 0) dL_law_829 rfl ic_0 ?_
      refine e_callW dL_law_830 rfl csL_117 km rfl rfl ⟨Nat.le_of_ble_eq_true rfl, Nat.le_of_ble_eq_true rfl⟩ ⟨(by show _ ≤ 666358; omega), (by show _ ≤ 7096541; omega)⟩ rfl rfl (Nat.le_of_ble_eq_true rfl) ?_
      refine e_istore_14 dL_law_833 rfl (Nat.le_of_ble_eq_true rfl) rfl ?_
      refine e_iload_14 dL_law_835 rfl ?_
      refine e_if_lt_t (tgt := 844) dL_law_837 (by decide) (by decide) ?_
      refine e_iconst (v := nI 0) dL_law_844 rfl ic_0 ?_
      refine e_iload_15 dL_law_845 rfl ?_
      refine e_if_ne_t (tgt := 854) dL_law_847 (by decide) hz0 ?_
      refine e_iconst (v := nI 0) dL_law_854 rfl ic_0 ?_
      refine e_nc_ne_f dL_law_855 rfl ⟨887, by decide⟩ (by omega) (by omega) rfl ?_
      refine e_aload_1 dL_law_858 rfl ?_
      refine e_callV dL_law_859 rfl csL_133 hacc rfl rfl ps_0 (by decide) (by decide) ⟨Nat.le_of_ble_eq_true rfl, Nat.le_of_ble_eq_true rfl⟩ ⟨(by show _ ≤ 666358; omega), (by show _ ≤ 7096541; omega)⟩ rfl rfl (Nat.le_of_ble_eq_true rfl) ?_
      refine e_iload_13 dL_law_862 rfl ?_
      refine e_nc_ne_f dL_law_864 rfl ⟨887, by decide⟩ (by omega) (by omega) rfl ?_
      refine e_iload_14 dL_law_867 rfl ?_
      refine e_if_lt_t (tgt := 889) dL_law_869 (by decide) (by decide) ?_
      refine e_goto (tgt := 921) dL_law_889 (by decide) ?_
      refine e_weak (weak_c (weak_c (weak_c (weak_c (weak_c (weak_n (weak_c (weak_n (weak_n (weak_n (weak_n (weak_c (weak_c (weak_n (weak_c (weak_n (weak_n (weak_n weak_nil)))))))))))))))))) ?_
      exact e_wid (by omega) (by omega) (kk _ h (Nat.le_refl _) (fun q => absurd q hz) (Nat.le_succ _) (Nat.le_succ _) (fun _ => ⟨rfl, rfl⟩))
  · have hacc : Sp l kX3_accepted 64 13 0 0 [.ref 0] M (.inl (some (.int (nI (acN M od rc))))) M := by
      have k := s_accepted hf h.mr h.od8 h.hrc hr8
      rwa [ac_nI _ _ hr8] at k
    refine e_aload_1 dL_law_809 rfl ?_
    refine e_bipush (v := nI 24) dL_law_810 rfl bc_24 ?_
    refine e_iload_9 dL_law_812 rfl ?_
    refine e_iload_10 dL_law_814 rfl ?_
    refine e_iconst (v := nI 0) dL_law_816 rfl ic_0 ?_
    refine e_callW dL_law_817 rfl csL_117 (k_chMove_nr hf h hn) rfl rfl ⟨Nat.le_of_ble_eq_true rfl, Nat.le_of_ble_eq_true rfl⟩ ⟨(by show _ ≤ 666358; omega), (by show _ ≤ 7096541; omega)⟩ rfl rfl (Nat.le_of_ble_eq_true rfl) ?_
    refine e_istore_15 dL_law_820 rfl (Nat.le_of_ble_eq_true rfl) rfl ?_
    refine e_aload_1 dL_law_822 rfl ?_
    refine e_bipush (v := nI 25) dL_law_823 rfl bd_25 ?_
    refine e_iload_9 dL_law_825 rfl ?_
    refine e_iload_10 dL_law_827 rfl ?_
    refine e_iconst (v := nI 0) dL_law_829 rfl ic_0 ?_
    refine e_callW dL_law_830 rfl csL_117 (k_move_nr hf h hn) rfl rfl ⟨Nat.le_of_ble_eq_true rfl, Nat.le_of_ble_eq_true rfl⟩ ⟨(by show _ ≤ 666358; omega), (by show _ ≤ 7096541; omega)⟩ rfl rfl (Nat.le_of_ble_eq_true rfl) ?_
    refine e_istore_14 dL_law_833 rfl (Nat.le_of_ble_eq_true rfl) rfl ?_
    refine e_iload_14 dL_law_835 rfl ?_
    refine e_if_lt_t (tgt := 844) dL_law_837 (by decide) (by decide) ?_
    refine e_iconst (v := nI 0) dL_law_844 rfl ic_0 ?_
    refine e_iload_15 dL_law_845 rfl ?_
    refine e_if_ne_t (tgt := 854) dL_law_847 (by decide) (by decide) ?_
    refine e_iconst (v := nI 0) dL_law_854 rfl ic_0 ?_
    refine e_nc_ne_f dL_law_855 rfl ⟨887, by decide⟩ (by omega) (by omega) rfl ?_
    refine e_aload_1 dL_law_858 rfl ?_
    refine e_callV dL_law_859 rfl csL_133 hacc rfl rfl ps_0 (by decide) (by decide) ⟨Nat.le_of_ble_eq_true rfl, Nat.le_of_ble_eq_true rfl⟩ ⟨(by show _ ≤ 666358; omega), (by show _ ≤ 7096541; omega)⟩ rfl rfl (Nat.le_of_ble_eq_true rfl) ?_
    refine e_iload_13 dL_law_862 rfl ?_
    refine e_nc_ne_f dL_law_864 rfl ⟨887, by decide⟩ (by omega) (by omega) rfl ?_
    refine e_iload_14 dL_law_867 rfl ?_
    refine e_if_lt_t (tgt := 889) dL_law_869 (by decide) (by decide) ?_
    refine e_goto (tgt := 921) dL_law_889 (by decide) ?_
    refine e_weak (weak_c (weak_c (weak_c (weak_c (weak_c (weak_n (weak_c (weak_n (weak_n (weak_n (weak_n (weak_c (weak_c (weak_n (weak_c (weak_n (weak_n (weak_n weak_nil)))))))))))))))))) ?_
    exact e_wid (by omega) (by omega) (kk _ h (Nat.le_refl _) (fun q => absurd q hz) (Nat.le_succ _) (Nat.le_succ _) (fun _ => ⟨rfl, rfl⟩))
theorem so_cnt {M : pmM} {rc : Nat} (h8 : rc ≤ 8) : ∀ (n : Nat) (od : Nat → Nat) (s : Nat), (soF M rc n od s).2 ≤ s + n * 8
  | 0, _, _ => by rw [soF]; omega
  | n + 1, od, s => by
    have := swF_cnt M od (rc - 1)
    rw [soF]
    by_cases hz : (swF M od (rc - 1)).2 = 0
    · rw [if_pos hz]; show s ≤ _; omega
    · rw [if_neg hz]
      have := so_cnt (M := M) h8 n (swF M od (rc - 1)).1 (s + (swF M od (rc - 1)).2)
      omega
theorem ev_sort {l : Launch} (hf : l.stackTraces = false) {nm : String} {hl : List (Nat × Nat × Nat × Nat)} {b Ln : Nat} {xs : Nat → Int32} {M : pmM} {od : Nat → Nat} {oc rc td g : Nat} {rg : Nat → Nat} {H : Nat} (h : IV M od oc rc td g rg H) {e ob ru po u : Nat} {gg hh ss : Int32} {z : Prop} (hg : g < 2 ^ 20) (hH : H < 2 ^ 20) (hu : u + 650 ≤ 666358) (hz : ¬ z) (kk : ∀ {N : pmM} {od' : Nat → Nat} {oc' rc' td' g' : Nat} {rg' : Nat → Nat} {H' : Nat} (told : Int32), IV N od' oc' rc' td' g' rg' H' → oc ≤ oc' → (z → oc < 8 → oc' = oc + 1) → g' ≤ g + 1 → H' ≤ H + 1 → (told < 0 → oc' = oc ∧ svS N od' oc' rc' td' rg' = svS M od oc rc td rg) → Ev l (kLaw nm hl) (gS b Ln xs) room_1 64 (u + 40) (6 * (u + 40)) 921 [some (.ref 1000), some (.ref 0), some (.int (nI oc')), some (.int (nI g')), some (.int (nI e)), none, some (.int hh), none, none, none, none, some (.long (svS M od oc rc td rg)), none, none, some (.int told), none, none, none] [] N) : Ev l (kLaw nm hl) (gS b Ln xs) room_1 64 u (6 * u) 892 [some (.ref 1000), some (.ref 0), some (.int (nI oc)), some (.int (nI g)), some (.int (nI e)), some (.int gg), some (.int hh), some (.int ss), some (.int (nI ob)), some (.int (nI ru)), some (.int (nI po)), some (.long (svS M od oc rc td rg)), none, some (.int (nI (acN M od rc))), some (.int (nI 0)), none, none, none] [] M := by
  have h8 := h.oc8
  have hr8 := h.rc8
  have ht9 := h.td9
  have hac := acN_le M od rc
  obtain ⟨r, hr⟩ : ∃ r, r = soF M rc 64 od 0 := ⟨_, rfl⟩
  have hk := so_keep (M := M) (rc := rc) (fun od' => IV (odM M od') od' oc rc td g rg H ∧ ∀ x y w, x < 32 → y < 32 → w < 32 → dcA M od' rc x y w = dcA M od rc x y w) (fun od' i hi hz0 ⟨p1, p2⟩ => ⟨p1.shift (show i < rc by omega) hi, fun x y w hx hy hw => by
    rw [ch_zero (M := M) p1.hac hr8 (show i < rc by omega) hi hz0 hx hy hw]
    exact p2 x y w hx hy hw⟩) 64 od 0 ⟨by rw [← odM_self h.mr]; exact h, fun _ _ _ _ _ _ => rfl⟩
  have hz2 := so_fix (M := M) (rc := rc) 64 od 0 (by have := ivN_le (hiP M od) rc hr8; omega)
  have ks := s_sortByHits hf h.mr h.od8 h.hrc hr8
  have hcnt : (soF M rc 64 od 0).2 ≤ 0 + 64 * 8 := so_cnt hr8 64 od 0
  rw [← hr] at hk hz2 ks hcnt
  obtain ⟨hN, hd⟩ := hk
  have ks2 : Sp l kX3_sortByHits 64 15 0 0 [.ref 0] (odM M r.1) (.inl (some (.int (nI 0)))) (odM M r.1) := by
    have k := s_sortByHits hf hN.mr hN.od8 hN.hrc hr8
    rw [so_1 (M := M) (M' := odM M r.1) rfl, so_none hz2, odM_odM] at k
    exact k
  have hacc : Sp l kX3_accepted 64 13 0 0 [.ref 0] (odM M r.1) (.inl (some (.int (nI (acN M od rc))))) (odM M r.1) := by
    have k := s_accepted hf hN.mr hN.od8 hN.hrc hr8
    rwa [ac_nI _ _ hr8, show acN (odM M r.1) r.1 rc = acN M od rc from cn3_congr (fun x y w hx hy hw => hd x y w hx hy hw)] at k
  refine e_aload_1 dL_law_892 rfl ?_
  refine e_callV dL_law_893 rfl csL_145 ks rfl rfl ps_0 (by decide) (by decide) ⟨Nat.le_of_ble_eq_true rfl, Nat.le_of_ble_eq_true rfl⟩ ⟨(by show _ ≤ 666358; omega), (by show _ ≤ 7096541; omega)⟩ rfl rfl (Nat.le_of_ble_eq_true rfl) ?_
  refine e_istore_15 dL_law_896 rfl (Nat.le_of_ble_eq_true rfl) rfl ?_
  refine e_iload_15 dL_law_898 rfl ?_
  refine e_if_lt_f dL_law_900 rfl ⟨919, by decide⟩ (nI_nn (by omega)) ?_
  refine e_aload_1 dL_law_903 rfl ?_
  refine e_callV dL_law_904 rfl csL_133 hacc rfl rfl ps_0 (by decide) (by decide) ⟨Nat.le_of_ble_eq_true rfl, Nat.le_of_ble_eq_true rfl⟩ ⟨(by show _ ≤ 666358; omega), (by show _ ≤ 7096541; omega)⟩ rfl rfl (Nat.le_of_ble_eq_true rfl) ?_
  refine e_iload_13 dL_law_907 rfl ?_
  refine e_nc_ne_f dL_law_909 rfl ⟨919, by decide⟩ (by omega) (by omega) rfl ?_
  refine e_aload_1 dL_law_912 rfl ?_
  refine e_callV dL_law_913 rfl csL_145 ks2 rfl rfl ps_0 (by decide) (by decide) ⟨Nat.le_of_ble_eq_true rfl, Nat.le_of_ble_eq_true rfl⟩ ⟨(by show _ ≤ 666358; omega), (by show _ ≤ 7096541; omega)⟩ rfl rfl (Nat.le_of_ble_eq_true rfl) ?_
  refine e_if_eq_t (tgt := 921) dL_law_916 (by decide) rfl ?_
  refine e_weak (weak_c (weak_c (weak_c (weak_c (weak_c (weak_n (weak_c (weak_n (weak_n (weak_n (weak_n (weak_c (weak_c (weak_n (weak_c (weak_n (weak_n (weak_n weak_nil)))))))))))))))))) ?_
  exact e_wid (by omega) (by omega) (kk _ hN (Nat.le_refl _) (fun q => absurd q hz) (Nat.le_succ _) (Nat.le_succ _) (fun q => absurd q (nI_nn (by decide))))
