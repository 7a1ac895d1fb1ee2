/-! ===== law: its cases ===== -/
theorem RLX.mr {M : pmM} (h : RLX M) : ∃ od, M.2.1 = mrC od := by
  obtain ⟨od, mo, oc, rc, td, g, rg, mc, lo, hi, mb, h⟩ := h
  exact ⟨od, h.1.1⟩
theorem lc_addObject {l : Launch} (hf : l.stackTraces = false) {nm : String} {hl : List (Nat × Nat × Nat × Nat)} {b Ln : Nat} {xs : Nat → Int32} (hL : Ln ≤ 3584) {M : pmM} (h : RLX M) {j u w : Nat} (hi : 7 * j + 7 ≤ Ln) (hu : u + 6 ≤ 628212) (hw : w + 36 ≤ 7131595) (kk : ∀ N, RLX N → Ev l (kLaw nm hl) (gS b Ln xs) room_1 86 (u + 6) (w + 36) 2200 [some (.ref 1000), some (.ref 0), some (.ref 64), some (.ref 84), some (.ref 85), some (.int (nI (7 * j))), none, none, none] [] N) : Ev l (kLaw nm hl) (gS b Ln xs) room_1 86 u w 196 [some (.ref 1000), some (.ref 0), some (.ref 64), some (.ref 84), some (.ref 85), some (.int (nI (7 * j))), none, none, none] [] M := by
  obtain ⟨k, M1, v, N, hk, h1, h2, h3, h4, h5⟩ := p_addObject hf h
  obtain ⟨od9, ho9⟩ := h5.mr
  refine e_aload_1 dL_law_196 rfl ?_
  refine e_aload_3 dL_law_197 rfl ?_
  refine e_callW dL_law_198 rfl csL_125 h1 rfl rfl ⟨Nat.le_of_ble_eq_true rfl, Nat.le_of_ble_eq_true rfl⟩ ⟨show u + 1 ≤ 628212 by omega, show w + 6 * 1 ≤ 7131595 by omega⟩ rfl rfl (Nat.le_of_ble_eq_true rfl) ?_
  refine e_istore_6 dL_law_201 rfl (Nat.le_of_ble_eq_true rfl) rfl ?_
  refine e_aload_2 dL_law_203 rfl ?_
  refine e_callV dL_law_204 rfl csL_130 h3 rfl rfl ps_64 (by decide) (by decide) ⟨Nat.le_of_ble_eq_true rfl, Nat.le_of_ble_eq_true rfl⟩ ⟨show _ ≤ 628212 by omega, show _ ≤ 7131595 by omega⟩ rfl rfl (Nat.le_of_ble_eq_true rfl) ?_
  refine e_istore_7 dL_law_207 rfl (Nat.le_of_ble_eq_true rfl) rfl ?_
  refine e_aload_2 dL_law_209 rfl ?_
  refine e_callV dL_law_210 rfl csL_131 (m_thrown hf ho9) rfl rfl ps_64 (by decide) (by decide) ⟨Nat.le_of_ble_eq_true rfl, Nat.le_of_ble_eq_true rfl⟩ ⟨show _ ≤ 628212 by omega, show _ ≤ 7131595 by omega⟩ rfl rfl (Nat.le_of_ble_eq_true rfl) ?_
  refine e_topi (nI k) h4 ?_
  refine e_iload_6 dL_law_213 rfl ?_
  refine e_nc_eq_t (tgt := 220) dL_law_215 (by decide) (by omega) (by omega) rfl ?_
  refine e_iload_6 dL_law_220 rfl ?_
  rcases Nat.eq_zero_or_pos k with hk0 | hk0
  · subst hk0
    have h2 := h2 rfl
    refine e_if_ne_f dL_law_222 rfl ⟨237, by decide⟩ (by decide) ?_
    refine e_aload_3 dL_law_225 rfl ?_
    refine e_iconst (v := nI 0) dL_law_226 rfl ic_0 ?_
    refine e_lald dL_law_227 rfl ps_84 (by decide) rfl (by omega) ?_
    refine e_iload_7 dL_law_228 rfl ?_
    refine e_i2l dL_law_230 rfl ?_
    refine e_lcmp dL_law_231 rfl ?_
    refine e_topi 0 (by rw [h2]; exact lg_cmp_self _) ?_
    refine e_if_eq_t (tgt := 237) dL_law_232 (by decide) rfl ?_
    refine e_goto (tgt := 2200) dL_law_237 (by decide) ?_
    refine e_weak (lo' := [some (.ref 1000), some (.ref 0), some (.ref 64), some (.ref 84), some (.ref 85), some (.int (nI (7 * j))), none, none, none]) (weak_c (weak_c (weak_c (weak_c (weak_c (weak_c (weak_n (weak_n (weak_n weak_nil))))))))) ?_
    refine e_wid (show _ ≤ u + 6 by omega) (show _ ≤ w + 36 by omega) ?_
    exact kk N h5
  · refine e_if_ne_t (tgt := 237) dL_law_222 (by decide) (nI_ne0 hk0 (by omega)) ?_
    refine e_goto (tgt := 2200) dL_law_237 (by decide) ?_
    refine e_weak (lo' := [some (.ref 1000), some (.ref 0), some (.ref 64), some (.ref 84), some (.ref 85), some (.int (nI (7 * j))), none, none, none]) (weak_c (weak_c (weak_c (weak_c (weak_c (weak_c (weak_n (weak_n (weak_n weak_nil))))))))) ?_
    refine e_wid (show _ ≤ u + 6 by omega) (show _ ≤ w + 36 by omega) ?_
    exact kk N h5
theorem lc_addRange {l : Launch} (hf : l.stackTraces = false) {nm : String} {hl : List (Nat × Nat × Nat × Nat)} {b Ln : Nat} {xs : Nat → Int32} (hL : Ln ≤ 3584) {M : pmM} (h : RLX M) {j u w : Nat} (hi : 7 * j + 7 ≤ Ln) (hu : u + 6 ≤ 628212) (hw : w + 36 ≤ 7131595) (kk : ∀ N, RLX N → Ev l (kLaw nm hl) (gS b Ln xs) room_1 86 (u + 6) (w + 36) 2200 [some (.ref 1000), some (.ref 0), some (.ref 64), some (.ref 84), some (.ref 85), some (.int (nI (7 * j))), none, none, none] [] N) : Ev l (kLaw nm hl) (gS b Ln xs) room_1 86 u w 240 [some (.ref 1000), some (.ref 0), some (.ref 64), some (.ref 84), some (.ref 85), some (.int (nI (7 * j))), none, none, none] [] M := by
  obtain ⟨k, M1, v, N, hk, h1, h2, h3, h4, h5⟩ := p_addRange hf h (xs (7 * j + 1)) (xs (7 * j + 2)) (xs (7 * j + 3))
  obtain ⟨od9, ho9⟩ := h5.mr
  refine e_aload_1 dL_law_240 rfl ?_
  refine e_aload_0 dL_law_241 rfl ?_
  refine e_iload_5 dL_law_242 rfl ?_
  refine e_iconst (v := nI 1) dL_law_244 rfl ic_1 ?_
  refine e_iadd dL_law_245 rfl ?_
  refine e_topi (nI (7 * j + 1)) (nI_add _ _) ?_
  refine e_sld dL_law_246 rfl rfl (by omega) hL ?_
  refine e_aload_0 dL_law_247 rfl ?_
  refine e_iload_5 dL_law_248 rfl ?_
  refine e_iconst (v := nI 2) dL_law_250 rfl ic_2 ?_
  refine e_iadd dL_law_251 rfl ?_
  refine e_topi (nI (7 * j + 2)) (nI_add _ _) ?_
  refine e_sld dL_law_252 rfl rfl (by omega) hL ?_
  refine e_aload_0 dL_law_253 rfl ?_
  refine e_iload_5 dL_law_254 rfl ?_
  refine e_iconst (v := nI 3) dL_law_256 rfl ic_3 ?_
  refine e_iadd dL_law_257 rfl ?_
  refine e_topi (nI (7 * j + 3)) (nI_add _ _) ?_
  refine e_sld dL_law_258 rfl rfl (by omega) hL ?_
  refine e_aload_3 dL_law_259 rfl ?_
  refine e_callW dL_law_260 rfl csL_134 h1 rfl rfl ⟨Nat.le_of_ble_eq_true rfl, Nat.le_of_ble_eq_true rfl⟩ ⟨show u + 5 ≤ 628212 by omega, show w + 6 * 5 ≤ 7131595 by omega⟩ rfl rfl (Nat.le_of_ble_eq_true rfl) ?_
  refine e_istore_6 dL_law_263 rfl (Nat.le_of_ble_eq_true rfl) rfl ?_
  refine e_aload_2 dL_law_265 rfl ?_
  refine e_aload_0 dL_law_266 rfl ?_
  refine e_iload_5 dL_law_267 rfl ?_
  refine e_iconst (v := nI 1) dL_law_269 rfl ic_1 ?_
  refine e_iadd dL_law_270 rfl ?_
  refine e_topi (nI (7 * j + 1)) (nI_add _ _) ?_
  refine e_sld dL_law_271 rfl rfl (by omega) hL ?_
  refine e_aload_0 dL_law_272 rfl ?_
  refine e_iload_5 dL_law_273 rfl ?_
  refine e_iconst (v := nI 2) dL_law_275 rfl ic_2 ?_
  refine e_iadd dL_law_276 rfl ?_
  refine e_topi (nI (7 * j + 2)) (nI_add _ _) ?_
  refine e_sld dL_law_277 rfl rfl (by omega) hL ?_
  refine e_aload_0 dL_law_278 rfl ?_
  refine e_iload_5 dL_law_279 rfl ?_
  refine e_iconst (v := nI 3) dL_law_281 rfl ic_3 ?_
  refine e_iadd dL_law_282 rfl ?_
  refine e_topi (nI (7 * j + 3)) (nI_add _ _) ?_
  refine e_sld dL_law_283 rfl rfl (by omega) hL ?_
  refine e_callV dL_law_284 rfl csL_137 h3 rfl rfl ps_64 (by decide) (by decide) ⟨Nat.le_of_ble_eq_true rfl, Nat.le_of_ble_eq_true rfl⟩ ⟨show _ ≤ 628212 by omega, show _ ≤ 7131595 by omega⟩ rfl rfl (Nat.le_of_ble_eq_true rfl) ?_
  refine e_istore_7 dL_law_287 rfl (Nat.le_of_ble_eq_true rfl) rfl ?_
  refine e_aload_2 dL_law_289 rfl ?_
  refine e_callV dL_law_290 rfl csL_131 (m_thrown hf ho9) rfl rfl ps_64 (by decide) (by decide) ⟨Nat.le_of_ble_eq_true rfl, Nat.le_of_ble_eq_true rfl⟩ ⟨show _ ≤ 628212 by omega, show _ ≤ 7131595 by omega⟩ rfl rfl (Nat.le_of_ble_eq_true rfl) ?_
  refine e_topi (nI k) h4 ?_
  refine e_iload_6 dL_law_293 rfl ?_
  refine e_nc_eq_t (tgt := 300) dL_law_295 (by decide) (by omega) (by omega) rfl ?_
  refine e_iload_6 dL_law_300 rfl ?_
  rcases Nat.eq_zero_or_pos k with hk0 | hk0
  · subst hk0
    have h2 := h2 rfl
    refine e_if_ne_f dL_law_302 rfl ⟨317, by decide⟩ (by decide) ?_
    refine e_aload_3 dL_law_305 rfl ?_
    refine e_iconst (v := nI 0) dL_law_306 rfl ic_0 ?_
    refine e_lald dL_law_307 rfl ps_84 (by decide) rfl (by omega) ?_
    refine e_iload_7 dL_law_308 rfl ?_
    refine e_i2l dL_law_310 rfl ?_
    refine e_lcmp dL_law_311 rfl ?_
    refine e_topi 0 (by rw [h2]; exact lg_cmp_self _) ?_
    refine e_if_eq_t (tgt := 317) dL_law_312 (by decide) rfl ?_
    refine e_goto (tgt := 2200) dL_law_317 (by decide) ?_
    refine e_weak (lo' := [some (.ref 1000), some (.ref 0), some (.ref 64), some (.ref 84), some (.ref 85), some (.int (nI (7 * j))), none, none, none]) (weak_c (weak_c (weak_c (weak_c (weak_c (weak_c (weak_n (weak_n (weak_n weak_nil))))))))) ?_
    refine e_wid (show _ ≤ u + 6 by omega) (show _ ≤ w + 36 by omega) ?_
    exact kk N h5
  · refine e_if_ne_t (tgt := 317) dL_law_302 (by decide) (nI_ne0 hk0 (by omega)) ?_
    refine e_goto (tgt := 2200) dL_law_317 (by decide) ?_
    refine e_weak (lo' := [some (.ref 1000), some (.ref 0), some (.ref 64), some (.ref 84), some (.ref 85), some (.int (nI (7 * j))), none, none, none]) (weak_c (weak_c (weak_c (weak_c (weak_c (weak_c (weak_n (weak_n (weak_n weak_nil))))))))) ?_
    refine e_wid (show _ ≤ u + 6 by omega) (show _ ≤ w + 36 by omega) ?_
    exact kk N h5
theorem lc_removeRange {l : Launch} (hf : l.stackTraces = false) {nm : String} {hl : List (Nat × Nat × Nat × Nat)} {b Ln : Nat} {xs : Nat → Int32} (hL : Ln ≤ 3584) {M : pmM} (h : RLX M) {j u w : Nat} (hi : 7 * j + 7 ≤ Ln) (hu : u + 6 ≤ 628212) (hw : w + 36 ≤ 7131595) (kk : ∀ N, RLX N → Ev l (kLaw nm hl) (gS b Ln xs) room_1 86 (u + 6) (w + 36) 2200 [some (.ref 1000), some (.ref 0), some (.ref 64), some (.ref 84), some (.ref 85), some (.int (nI (7 * j))), none, none, none] [] N) : Ev l (kLaw nm hl) (gS b Ln xs) room_1 86 u w 320 [some (.ref 1000), some (.ref 0), some (.ref 64), some (.ref 84), some (.ref 85), some (.int (nI (7 * j))), none, none, none] [] M := by
  obtain ⟨k, M1, v, N, hk, h1, h2, h3, h4, h5⟩ := p_removeRange hf h (xs (7 * j + 1))
  obtain ⟨od9, ho9⟩ := h5.mr
  refine e_aload_1 dL_law_320 rfl ?_
  refine e_aload_0 dL_law_321 rfl ?_
  refine e_iload_5 dL_law_322 rfl ?_
  refine e_iconst (v := nI 1) dL_law_324 rfl ic_1 ?_
  refine e_iadd dL_law_325 rfl ?_
  refine e_topi (nI (7 * j + 1)) (nI_add _ _) ?_
  refine e_sld dL_law_326 rfl rfl (by omega) hL ?_
  refine e_aload_3 dL_law_327 rfl ?_
  refine e_callW dL_law_328 rfl csL_138 h1 rfl rfl ⟨Nat.le_of_ble_eq_true rfl, Nat.le_of_ble_eq_true rfl⟩ ⟨show u + 2 ≤ 628212 by omega, show w + 6 * 2 ≤ 7131595 by omega⟩ rfl rfl (Nat.le_of_ble_eq_true rfl) ?_
  refine e_istore_6 dL_law_331 rfl (Nat.le_of_ble_eq_true rfl) rfl ?_
  refine e_aload_2 dL_law_333 rfl ?_
  refine e_aload_0 dL_law_334 rfl ?_
  refine e_iload_5 dL_law_335 rfl ?_
  refine e_iconst (v := nI 1) dL_law_337 rfl ic_1 ?_
  refine e_iadd dL_law_338 rfl ?_
  refine e_topi (nI (7 * j + 1)) (nI_add _ _) ?_
  refine e_sld dL_law_339 rfl rfl (by omega) hL ?_
  refine e_callV dL_law_340 rfl csL_141 h3 rfl rfl ps_64 (by decide) (by decide) ⟨Nat.le_of_ble_eq_true rfl, Nat.le_of_ble_eq_true rfl⟩ ⟨show _ ≤ 628212 by omega, show _ ≤ 7131595 by omega⟩ rfl rfl (Nat.le_of_ble_eq_true rfl) ?_
  refine e_istore_7 dL_law_343 rfl (Nat.le_of_ble_eq_true rfl) rfl ?_
  refine e_aload_2 dL_law_345 rfl ?_
  refine e_callV dL_law_346 rfl csL_131 (m_thrown hf ho9) rfl rfl ps_64 (by decide) (by decide) ⟨Nat.le_of_ble_eq_true rfl, Nat.le_of_ble_eq_true rfl⟩ ⟨show _ ≤ 628212 by omega, show _ ≤ 7131595 by omega⟩ rfl rfl (Nat.le_of_ble_eq_true rfl) ?_
  refine e_topi (nI k) h4 ?_
  refine e_iload_6 dL_law_349 rfl ?_
  refine e_nc_eq_t (tgt := 356) dL_law_351 (by decide) (by omega) (by omega) rfl ?_
  refine e_iload_6 dL_law_356 rfl ?_
  rcases Nat.eq_zero_or_pos k with hk0 | hk0
  · subst hk0
    have h2 := h2 rfl
    refine e_if_ne_f dL_law_358 rfl ⟨373, by decide⟩ (by decide) ?_
    refine e_aload_3 dL_law_361 rfl ?_
    refine e_iconst (v := nI 0) dL_law_362 rfl ic_0 ?_
    refine e_lald dL_law_363 rfl ps_84 (by decide) rfl (by omega) ?_
    refine e_iload_7 dL_law_364 rfl ?_
    refine e_i2l dL_law_366 rfl ?_
    refine e_lcmp dL_law_367 rfl ?_
    refine e_topi 0 (by rw [h2]; exact lg_cmp_self _) ?_
    refine e_if_eq_t (tgt := 373) dL_law_368 (by decide) rfl ?_
    refine e_goto (tgt := 2200) dL_law_373 (by decide) ?_
    refine e_weak (lo' := [some (.ref 1000), some (.ref 0), some (.ref 64), some (.ref 84), some (.ref 85), some (.int (nI (7 * j))), none, none, none]) (weak_c (weak_c (weak_c (weak_c (weak_c (weak_c (weak_n (weak_n (weak_n weak_nil))))))))) ?_
    refine e_wid (show _ ≤ u + 6 by omega) (show _ ≤ w + 36 by omega) ?_
    exact kk N h5
  · refine e_if_ne_t (tgt := 373) dL_law_358 (by decide) (nI_ne0 hk0 (by omega)) ?_
    refine e_goto (tgt := 2200) dL_law_373 (by decide) ?_
    refine e_weak (lo' := [some (.ref 1000), some (.ref 0), some (.ref 64), some (.ref 84), some (.ref 85), some (.int (nI (7 * j))), none, none, none]) (weak_c (weak_c (weak_c (weak_c (weak_c (weak_c (weak_n (weak_n (weak_n weak_nil))))))))) ?_
    refine e_wid (show _ ≤ u + 6 by omega) (show _ ≤ w + 36 by omega) ?_
    exact kk N h5
theorem lc_addMember {l : Launch} (hf : l.stackTraces = false) {nm : String} {hl : List (Nat × Nat × Nat × Nat)} {b Ln : Nat} {xs : Nat → Int32} (hL : Ln ≤ 3584) {M : pmM} (h : RLX M) {j u w : Nat} (hi : 7 * j + 7 ≤ Ln) (hu : u + 6 ≤ 628212) (hw : w + 36 ≤ 7131595) (kk : ∀ N, RLX N → Ev l (kLaw nm hl) (gS b Ln xs) room_1 86 (u + 6) (w + 36) 2200 [some (.ref 1000), some (.ref 0), some (.ref 64), some (.ref 84), some (.ref 85), some (.int (nI (7 * j))), none, none, none] [] N) : Ev l (kLaw nm hl) (gS b Ln xs) room_1 86 u w 376 [some (.ref 1000), some (.ref 0), some (.ref 64), some (.ref 84), some (.ref 85), some (.int (nI (7 * j))), none, none, none] [] M := by
  obtain ⟨k, M1, v, N, hk, h1, h2, h3, h4, h5⟩ := p_addMember hf h (xs (7 * j + 1)) (xs (7 * j + 2))
  obtain ⟨od9, ho9⟩ := h5.mr
  refine e_aload_1 dL_law_376 rfl ?_
  refine e_aload_0 dL_law_377 rfl ?_
  refine e_iload_5 dL_law_378 rfl ?_
  refine e_iconst (v := nI 1) dL_law_380 rfl ic_1 ?_
  refine e_iadd dL_law_381 rfl ?_
  refine e_topi (nI (7 * j + 1)) (nI_add _ _) ?_
  refine e_sld dL_law_382 rfl rfl (by omega) hL ?_
  refine e_aload_0 dL_law_383 rfl ?_
  refine e_iload_5 dL_law_384 rfl ?_
  refine e_iconst (v := nI 2) dL_law_386 rfl ic_2 ?_
  refine e_iadd dL_law_387 rfl ?_
  refine e_topi (nI (7 * j + 2)) (nI_add _ _) ?_
  refine e_sld dL_law_388 rfl rfl (by omega) hL ?_
  refine e_aload_3 dL_law_389 rfl ?_
  refine e_callW dL_law_390 rfl csL_142 h1 rfl rfl ⟨Nat.le_of_ble_eq_true rfl, Nat.le_of_ble_eq_true rfl⟩ ⟨show u + 3 ≤ 628212 by omega, show w + 6 * 3 ≤ 7131595 by omega⟩ rfl rfl (Nat.le_of_ble_eq_true rfl) ?_
  refine e_istore_6 dL_law_393 rfl (Nat.le_of_ble_eq_true rfl) rfl ?_
  refine e_aload_2 dL_law_395 rfl ?_
  refine e_aload_0 dL_law_396 rfl ?_
  refine e_iload_5 dL_law_397 rfl ?_
  refine e_iconst (v := nI 1) dL_law_399 rfl ic_1 ?_
  refine e_iadd dL_law_400 rfl ?_
  refine e_topi (nI (7 * j + 1)) (nI_add _ _) ?_
  refine e_sld dL_law_401 rfl rfl (by omega) hL ?_
  refine e_aload_0 dL_law_402 rfl ?_
  refine e_iload_5 dL_law_403 rfl ?_
  refine e_iconst (v := nI 2) dL_law_405 rfl ic_2 ?_
  refine e_iadd dL_law_406 rfl ?_
  refine e_topi (nI (7 * j + 2)) (nI_add _ _) ?_
  refine e_sld dL_law_407 rfl rfl (by omega) hL ?_
  refine e_callV dL_law_408 rfl csL_145 h3 rfl rfl ps_64 (by decide) (by decide) ⟨Nat.le_of_ble_eq_true rfl, Nat.le_of_ble_eq_true rfl⟩ ⟨show _ ≤ 628212 by omega, show _ ≤ 7131595 by omega⟩ rfl rfl (Nat.le_of_ble_eq_true rfl) ?_
  refine e_istore_7 dL_law_411 rfl (Nat.le_of_ble_eq_true rfl) rfl ?_
  refine e_aload_2 dL_law_413 rfl ?_
  refine e_callV dL_law_414 rfl csL_131 (m_thrown hf ho9) rfl rfl ps_64 (by decide) (by decide) ⟨Nat.le_of_ble_eq_true rfl, Nat.le_of_ble_eq_true rfl⟩ ⟨show _ ≤ 628212 by omega, show _ ≤ 7131595 by omega⟩ rfl rfl (Nat.le_of_ble_eq_true rfl) ?_
  refine e_topi (nI k) h4 ?_
  refine e_iload_6 dL_law_417 rfl ?_
  refine e_nc_eq_t (tgt := 424) dL_law_419 (by decide) (by omega) (by omega) rfl ?_
  refine e_iload_6 dL_law_424 rfl ?_
  rcases Nat.eq_zero_or_pos k with hk0 | hk0
  · subst hk0
    have h2 := h2 rfl
    refine e_if_ne_f dL_law_426 rfl ⟨441, by decide⟩ (by decide) ?_
    refine e_aload_3 dL_law_429 rfl ?_
    refine e_iconst (v := nI 0) dL_law_430 rfl ic_0 ?_
    refine e_lald dL_law_431 rfl ps_84 (by decide) rfl (by omega) ?_
    refine e_iload_7 dL_law_432 rfl ?_
    refine e_i2l dL_law_434 rfl ?_
    refine e_lcmp dL_law_435 rfl ?_
    refine e_topi 0 (by rw [h2]; exact lg_cmp_self _) ?_
    refine e_if_eq_t (tgt := 441) dL_law_436 (by decide) rfl ?_
    refine e_goto (tgt := 2200) dL_law_441 (by decide) ?_
    refine e_weak (lo' := [some (.ref 1000), some (.ref 0), some (.ref 64), some (.ref 84), some (.ref 85), some (.int (nI (7 * j))), none, none, none]) (weak_c (weak_c (weak_c (weak_c (weak_c (weak_c (weak_n (weak_n (weak_n weak_nil))))))))) ?_
    refine e_wid (show _ ≤ u + 6 by omega) (show _ ≤ w + 36 by omega) ?_
    exact kk N h5
  · refine e_if_ne_t (tgt := 441) dL_law_426 (by decide) (nI_ne0 hk0 (by omega)) ?_
    refine e_goto (tgt := 2200) dL_law_441 (by decide) ?_
    refine e_weak (lo' := [some (.ref 1000), some (.ref 0), some (.ref 64), some (.ref 84), some (.ref 85), some (.int (nI (7 * j))), none, none, none]) (weak_c (weak_c (weak_c (weak_c (weak_c (weak_c (weak_n (weak_n (weak_n weak_nil))))))))) ?_
    refine e_wid (show _ ≤ u + 6 by omega) (show _ ≤ w + 36 by omega) ?_
    exact kk N h5
theorem lc_removeMember {l : Launch} (hf : l.stackTraces = false) {nm : String} {hl : List (Nat × Nat × Nat × Nat)} {b Ln : Nat} {xs : Nat → Int32} (hL : Ln ≤ 3584) {M : pmM} (h : RLX M) {j u w : Nat} (hi : 7 * j + 7 ≤ Ln) (hu : u + 6 ≤ 628212) (hw : w + 36 ≤ 7131595) (kk : ∀ N, RLX N → Ev l (kLaw nm hl) (gS b Ln xs) room_1 86 (u + 6) (w + 36) 2200 [some (.ref 1000), some (.ref 0), some (.ref 64), some (.ref 84), some (.ref 85), some (.int (nI (7 * j))), none, none, none] [] N) : Ev l (kLaw nm hl) (gS b Ln xs) room_1 86 u w 444 [some (.ref 1000), some (.ref 0), some (.ref 64), some (.ref 84), some (.ref 85), some (.int (nI (7 * j))), none, none, none] [] M := by
  obtain ⟨k, M1, v, N, hk, h1, h2, h3, h4, h5⟩ := p_removeMember hf h (xs (7 * j + 1)) (xs (7 * j + 2))
  obtain ⟨od9, ho9⟩ := h5.mr
  refine e_aload_1 dL_law_444 rfl ?_
  refine e_aload_0 dL_law_445 rfl ?_
  refine e_iload_5 dL_law_446 rfl ?_
  refine e_iconst (v := nI 1) dL_law_448 rfl ic_1 ?_
  refine e_iadd dL_law_449 rfl ?_
  refine e_topi (nI (7 * j + 1)) (nI_add _ _) ?_
  refine e_sld dL_law_450 rfl rfl (by omega) hL ?_
  refine e_aload_0 dL_law_451 rfl ?_
  refine e_iload_5 dL_law_452 rfl ?_
  refine e_iconst (v := nI 2) dL_law_454 rfl ic_2 ?_
  refine e_iadd dL_law_455 rfl ?_
  refine e_topi (nI (7 * j + 2)) (nI_add _ _) ?_
  refine e_sld dL_law_456 rfl rfl (by omega) hL ?_
  refine e_aload_3 dL_law_457 rfl ?_
  refine e_callW dL_law_458 rfl csL_146 h1 rfl rfl ⟨Nat.le_of_ble_eq_true rfl, Nat.le_of_ble_eq_true rfl⟩ ⟨show u + 3 ≤ 628212 by omega, show w + 6 * 3 ≤ 7131595 by omega⟩ rfl rfl (Nat.le_of_ble_eq_true rfl) ?_
  refine e_istore_6 dL_law_461 rfl (Nat.le_of_ble_eq_true rfl) rfl ?_
  refine e_aload_2 dL_law_463 rfl ?_
  refine e_aload_0 dL_law_464 rfl ?_
  refine e_iload_5 dL_law_465 rfl ?_
  refine e_iconst (v := nI 1) dL_law_467 rfl ic_1 ?_
  refine e_iadd dL_law_468 rfl ?_
  refine e_topi (nI (7 * j + 1)) (nI_add _ _) ?_
  refine e_sld dL_law_469 rfl rfl (by omega) hL ?_
  refine e_aload_0 dL_law_470 rfl ?_
  refine e_iload_5 dL_law_471 rfl ?_
  refine e_iconst (v := nI 2) dL_law_473 rfl ic_2 ?_
  refine e_iadd dL_law_474 rfl ?_
  refine e_topi (nI (7 * j + 2)) (nI_add _ _) ?_
  refine e_sld dL_law_475 rfl rfl (by omega) hL ?_
  refine e_callV dL_law_476 rfl csL_148 h3 rfl rfl ps_64 (by decide) (by decide) ⟨Nat.le_of_ble_eq_true rfl, Nat.le_of_ble_eq_true rfl⟩ ⟨show _ ≤ 628212 by omega, show _ ≤ 7131595 by omega⟩ rfl rfl (Nat.le_of_ble_eq_true rfl) ?_
  refine e_istore_7 dL_law_479 rfl (Nat.le_of_ble_eq_true rfl) rfl ?_
  refine e_aload_2 dL_law_481 rfl ?_
  refine e_callV dL_law_482 rfl csL_131 (m_thrown hf ho9) rfl rfl ps_64 (by decide) (by decide) ⟨Nat.le_of_ble_eq_true rfl, Nat.le_of_ble_eq_true rfl⟩ ⟨show _ ≤ 628212 by omega, show _ ≤ 7131595 by omega⟩ rfl rfl (Nat.le_of_ble_eq_true rfl) ?_
  refine e_topi (nI k) h4 ?_
  refine e_iload_6 dL_law_485 rfl ?_
  refine e_nc_eq_t (tgt := 492) dL_law_487 (by decide) (by omega) (by omega) rfl ?_
  refine e_iload_6 dL_law_492 rfl ?_
  rcases Nat.eq_zero_or_pos k with hk0 | hk0
  · subst hk0
    have h2 := h2 rfl
    refine e_if_ne_f dL_law_494 rfl ⟨509, by decide⟩ (by decide) ?_
    refine e_aload_3 dL_law_497 rfl ?_
    refine e_iconst (v := nI 0) dL_law_498 rfl ic_0 ?_
    refine e_lald dL_law_499 rfl ps_84 (by decide) rfl (by omega) ?_
    refine e_iload_7 dL_law_500 rfl ?_
    refine e_i2l dL_law_502 rfl ?_
    refine e_lcmp dL_law_503 rfl ?_
    refine e_topi 0 (by rw [h2]; exact lg_cmp_self _) ?_
    refine e_if_eq_t (tgt := 509) dL_law_504 (by decide) rfl ?_
    refine e_goto (tgt := 2200) dL_law_509 (by decide) ?_
    refine e_weak (lo' := [some (.ref 1000), some (.ref 0), some (.ref 64), some (.ref 84), some (.ref 85), some (.int (nI (7 * j))), none, none, none]) (weak_c (weak_c (weak_c (weak_c (weak_c (weak_c (weak_n (weak_n (weak_n weak_nil))))))))) ?_
    refine e_wid (show _ ≤ u + 6 by omega) (show _ ≤ w + 36 by omega) ?_
    exact kk N h5
  · refine e_if_ne_t (tgt := 509) dL_law_494 (by decide) (nI_ne0 hk0 (by omega)) ?_
    refine e_goto (tgt := 2200) dL_law_509 (by decide) ?_
    refine e_weak (lo' := [some (.ref 1000), some (.ref 0), some (.ref 64), some (.ref 84), some (.ref 85), some (.int (nI (7 * j))), none, none, none]) (weak_c (weak_c (weak_c (weak_c (weak_c (weak_c (weak_n (weak_n (weak_n weak_nil))))))))) ?_
    refine e_wid (show _ ≤ u + 6 by omega) (show _ ≤ w + 36 by omega) ?_
    exact kk N h5
theorem lc_values {l : Launch} (hf : l.stackTraces = false) {nm : String} {hl : List (Nat × Nat × Nat × Nat)} {b Ln : Nat} {xs : Nat → Int32} (hL : Ln ≤ 3584) {M : pmM} (h : RLX M) {j u w : Nat} (hi : 7 * j + 7 ≤ Ln) (hu : u + 6 ≤ 628212) (hw : w + 36 ≤ 7131595) (kk : ∀ N, RLX N → Ev l (kLaw nm hl) (gS b Ln xs) room_1 86 (u + 6) (w + 36) 2200 [some (.ref 1000), some (.ref 0), some (.ref 64), some (.ref 84), some (.ref 85), some (.int (nI (7 * j))), none, none, none] [] N) : Ev l (kLaw nm hl) (gS b Ln xs) room_1 86 u w 512 [some (.ref 1000), some (.ref 0), some (.ref 64), some (.ref 84), some (.ref 85), some (.int (nI (7 * j))), none, none, none] [] M := by
  obtain ⟨k, M1, v, N, hk, h1, h2, h3, h4, h5⟩ := p_values hf h (xs (7 * j + 1))
  obtain ⟨od9, ho9⟩ := h5.mr
  refine e_aload_1 dL_law_512 rfl ?_
  refine e_aload_0 dL_law_513 rfl ?_
  refine e_iload_5 dL_law_514 rfl ?_
  refine e_iconst (v := nI 1) dL_law_516 rfl ic_1 ?_
  refine e_iadd dL_law_517 rfl ?_
  refine e_topi (nI (7 * j + 1)) (nI_add _ _) ?_
  refine e_sld dL_law_518 rfl rfl (by omega) hL ?_
  refine e_aload_3 dL_law_519 rfl ?_
  refine e_callW dL_law_520 rfl csL_149 h1 rfl rfl ⟨Nat.le_of_ble_eq_true rfl, Nat.le_of_ble_eq_true rfl⟩ ⟨show u + 1 ≤ 628212 by omega, show w + 6 * 1 ≤ 7131595 by omega⟩ rfl rfl (Nat.le_of_ble_eq_true rfl) ?_
  refine e_istore_6 dL_law_523 rfl (Nat.le_of_ble_eq_true rfl) rfl ?_
  refine e_aload_2 dL_law_525 rfl ?_
  refine e_aload_0 dL_law_526 rfl ?_
  refine e_iload_5 dL_law_527 rfl ?_
  refine e_iconst (v := nI 1) dL_law_529 rfl ic_1 ?_
  refine e_iadd dL_law_530 rfl ?_
  refine e_topi (nI (7 * j + 1)) (nI_add _ _) ?_
  refine e_sld dL_law_531 rfl rfl (by omega) hL ?_
  refine e_callV dL_law_532 rfl csL_151 h3 rfl rfl ps_64 (by decide) (by decide) ⟨Nat.le_of_ble_eq_true rfl, Nat.le_of_ble_eq_true rfl⟩ ⟨show _ ≤ 628212 by omega, show _ ≤ 7131595 by omega⟩ rfl rfl (Nat.le_of_ble_eq_true rfl) ?_
  refine e_istore_7 dL_law_535 rfl (Nat.le_of_ble_eq_true rfl) rfl ?_
  refine e_aload_2 dL_law_537 rfl ?_
  refine e_callV dL_law_538 rfl csL_131 (m_thrown hf ho9) rfl rfl ps_64 (by decide) (by decide) ⟨Nat.le_of_ble_eq_true rfl, Nat.le_of_ble_eq_true rfl⟩ ⟨show _ ≤ 628212 by omega, show _ ≤ 7131595 by omega⟩ rfl rfl (Nat.le_of_ble_eq_true rfl) ?_
  refine e_topi (nI k) h4 ?_
  refine e_iload_6 dL_law_541 rfl ?_
  refine e_nc_eq_t (tgt := 548) dL_law_543 (by decide) (by omega) (by omega) rfl ?_
  refine e_iload_6 dL_law_548 rfl ?_
  rcases Nat.eq_zero_or_pos k with hk0 | hk0
  · subst hk0
    have h2 := h2 rfl
    refine e_if_ne_f dL_law_550 rfl ⟨565, by decide⟩ (by decide) ?_
    refine e_aload_3 dL_law_553 rfl ?_
    refine e_iconst (v := nI 0) dL_law_554 rfl ic_0 ?_
    refine e_lald dL_law_555 rfl ps_84 (by decide) rfl (by omega) ?_
    refine e_iload_7 dL_law_556 rfl ?_
    refine e_i2l dL_law_558 rfl ?_
    refine e_lcmp dL_law_559 rfl ?_
    refine e_topi 0 (by rw [h2]; exact lg_cmp_self _) ?_
    refine e_if_eq_t (tgt := 565) dL_law_560 (by decide) rfl ?_
    refine e_goto (tgt := 2200) dL_law_565 (by decide) ?_
    refine e_weak (lo' := [some (.ref 1000), some (.ref 0), some (.ref 64), some (.ref 84), some (.ref 85), some (.int (nI (7 * j))), none, none, none]) (weak_c (weak_c (weak_c (weak_c (weak_c (weak_c (weak_n (weak_n (weak_n weak_nil))))))))) ?_
    refine e_wid (show _ ≤ u + 6 by omega) (show _ ≤ w + 36 by omega) ?_
    exact kk N h5
  · refine e_if_ne_t (tgt := 565) dL_law_550 (by decide) (nI_ne0 hk0 (by omega)) ?_
    refine e_goto (tgt := 2200) dL_law_565 (by decide) ?_
    refine e_weak (lo' := [some (.ref 1000), some (.ref 0), some (.ref 64), some (.ref 84), some (.ref 85), some (.int (nI (7 * j))), none, none, none]) (weak_c (weak_c (weak_c (weak_c (weak_c (weak_c (weak_n (weak_n (weak_n weak_nil))))))))) ?_
    refine e_wid (show _ ≤ u + 6 by omega) (show _ ≤ w + 36 by omega) ?_
    exact kk N h5
theorem lc_hasValue {l : Launch} (hf : l.stackTraces = false) {nm : String} {hl : List (Nat × Nat × Nat × Nat)} {b Ln : Nat} {xs : Nat → Int32} (hL : Ln ≤ 3584) {M : pmM} (h : RLX M) {j u w : Nat} (hi : 7 * j + 7 ≤ Ln) (hu : u + 6 ≤ 628212) (hw : w + 36 ≤ 7131595) (kk : ∀ N, RLX N → Ev l (kLaw nm hl) (gS b Ln xs) room_1 86 (u + 6) (w + 36) 2200 [some (.ref 1000), some (.ref 0), some (.ref 64), some (.ref 84), some (.ref 85), some (.int (nI (7 * j))), none, none, none] [] N) : Ev l (kLaw nm hl) (gS b Ln xs) room_1 86 u w 568 [some (.ref 1000), some (.ref 0), some (.ref 64), some (.ref 84), some (.ref 85), some (.int (nI (7 * j))), none, none, none] [] M := by
  obtain ⟨k, M1, q, N, hk, h1, h2, h3, h4, h5⟩ := p_hasValue hf h (xs (7 * j + 1)) (xs (7 * j + 2))
  obtain ⟨od9, ho9⟩ := h5.mr
  refine e_aload_1 dL_law_568 rfl ?_
  refine e_aload_0 dL_law_569 rfl ?_
  refine e_iload_5 dL_law_570 rfl ?_
  refine e_iconst (v := nI 1) dL_law_572 rfl ic_1 ?_
  refine e_iadd dL_law_573 rfl ?_
  refine e_topi (nI (7 * j + 1)) (nI_add _ _) ?_
  refine e_sld dL_law_574 rfl rfl (by omega) hL ?_
  refine e_aload_0 dL_law_575 rfl ?_
  refine e_iload_5 dL_law_576 rfl ?_
  refine e_iconst (v := nI 2) dL_law_578 rfl ic_2 ?_
  refine e_iadd dL_law_579 rfl ?_
  refine e_topi (nI (7 * j + 2)) (nI_add _ _) ?_
  refine e_sld dL_law_580 rfl rfl (by omega) hL ?_
  refine e_aload_3 dL_law_581 rfl ?_
  refine e_callW dL_law_582 rfl csL_152 h1 rfl rfl ⟨Nat.le_of_ble_eq_true rfl, Nat.le_of_ble_eq_true rfl⟩ ⟨show u + 2 ≤ 628212 by omega, show w + 6 * 2 ≤ 7131595 by omega⟩ rfl rfl (Nat.le_of_ble_eq_true rfl) ?_
  refine e_istore_6 dL_law_585 rfl (Nat.le_of_ble_eq_true rfl) rfl ?_
  refine e_aload_2 dL_law_587 rfl ?_
  refine e_aload_0 dL_law_588 rfl ?_
  refine e_iload_5 dL_law_589 rfl ?_
  refine e_iconst (v := nI 1) dL_law_591 rfl ic_1 ?_
  refine e_iadd dL_law_592 rfl ?_
  refine e_topi (nI (7 * j + 1)) (nI_add _ _) ?_
  refine e_sld dL_law_593 rfl rfl (by omega) hL ?_
  refine e_aload_0 dL_law_594 rfl ?_
  refine e_iload_5 dL_law_595 rfl ?_
  refine e_iconst (v := nI 2) dL_law_597 rfl ic_2 ?_
  refine e_iadd dL_law_598 rfl ?_
  refine e_topi (nI (7 * j + 2)) (nI_add _ _) ?_
  refine e_sld dL_law_599 rfl rfl (by omega) hL ?_
  refine e_callV dL_law_600 rfl csL_154 h3 rfl rfl ps_64 (by decide) (by decide) ⟨Nat.le_of_ble_eq_true rfl, Nat.le_of_ble_eq_true rfl⟩ ⟨show _ ≤ 628212 by omega, show _ ≤ 7131595 by omega⟩ rfl rfl (Nat.le_of_ble_eq_true rfl) ?_
  refine e_istore_7 dL_law_603 rfl (Nat.le_of_ble_eq_true rfl) rfl ?_
  refine e_aload_2 dL_law_605 rfl ?_
  refine e_callV dL_law_606 rfl csL_131 (m_thrown hf ho9) rfl rfl ps_64 (by decide) (by decide) ⟨Nat.le_of_ble_eq_true rfl, Nat.le_of_ble_eq_true rfl⟩ ⟨show _ ≤ 628212 by omega, show _ ≤ 7131595 by omega⟩ rfl rfl (Nat.le_of_ble_eq_true rfl) ?_
  refine e_topi (nI k) h4 ?_
  refine e_iload_6 dL_law_609 rfl ?_
  refine e_nc_eq_t (tgt := 616) dL_law_611 (by decide) (by omega) (by omega) rfl ?_
  refine e_iload_6 dL_law_616 rfl ?_
  rcases Nat.eq_zero_or_pos k with hk0 | hk0
  · subst hk0
    have h2 := h2 rfl
    refine e_if_ne_f dL_law_618 rfl ⟨640, by decide⟩ (by decide) ?_
    refine e_aload_3 dL_law_621 rfl ?_
    refine e_iconst (v := nI 0) dL_law_622 rfl ic_0 ?_
    refine e_lald dL_law_623 rfl ps_84 (by decide) rfl (by omega) ?_
    refine e_iload_7 dL_law_624 rfl ?_
    cases q with
    | false =>
      refine e_if_eq_t (tgt := 633) dL_law_626 (by decide) (bI0 rfl) ?_
      refine e_lconst (v := 0) dL_law_633 rfl rfl ?_
      refine e_lcmp dL_law_634 rfl ?_
      refine e_topi 0 (by rw [h2]; exact lg_cmp_self _) ?_
      refine e_if_eq_t (tgt := 640) dL_law_635 (by decide) rfl ?_
      refine e_goto (tgt := 2200) dL_law_640 (by decide) ?_
      refine e_weak (lo' := [some (.ref 1000), some (.ref 0), some (.ref 64), some (.ref 84), some (.ref 85), some (.int (nI (7 * j))), none, none, none]) (weak_c (weak_c (weak_c (weak_c (weak_c (weak_c (weak_n (weak_n (weak_n weak_nil))))))))) ?_
      refine e_wid (show _ ≤ u + 6 by omega) (show _ ≤ w + 36 by omega) ?_
      exact kk N h5
    | true =>
      refine e_if_eq_f dL_law_626 rfl ⟨633, by decide⟩ (bI1 rfl) ?_
      refine e_lconst (v := 1) dL_law_629 rfl rfl ?_
      refine e_goto (tgt := 634) dL_law_630 (by decide) ?_
      refine e_lcmp dL_law_634 rfl ?_
      refine e_topi 0 (by rw [h2]; exact lg_cmp_self _) ?_
      refine e_if_eq_t (tgt := 640) dL_law_635 (by decide) rfl ?_
      refine e_goto (tgt := 2200) dL_law_640 (by decide) ?_
      refine e_weak (lo' := [some (.ref 1000), some (.ref 0), some (.ref 64), some (.ref 84), some (.ref 85), some (.int (nI (7 * j))), none, none, none]) (weak_c (weak_c (weak_c (weak_c (weak_c (weak_c (weak_n (weak_n (weak_n weak_nil))))))))) ?_
      refine e_wid (show _ ≤ u + 6 by omega) (show _ ≤ w + 36 by omega) ?_
      exact kk N h5
  · refine e_if_ne_t (tgt := 640) dL_law_618 (by decide) (nI_ne0 hk0 (by omega)) ?_
    refine e_goto (tgt := 2200) dL_law_640 (by decide) ?_
    refine e_weak (lo' := [some (.ref 1000), some (.ref 0), some (.ref 64), some (.ref 84), some (.ref 85), some (.int (nI (7 * j))), none, none, none]) (weak_c (weak_c (weak_c (weak_c (weak_c (weak_c (weak_n (weak_n (weak_n weak_nil))))))))) ?_
    refine e_wid (show _ ≤ u + 6 by omega) (show _ ≤ w + 36 by omega) ?_
    exact kk N h5
theorem lc_users {l : Launch} (hf : l.stackTraces = false) {nm : String} {hl : List (Nat × Nat × Nat × Nat)} {b Ln : Nat} {xs : Nat → Int32} (hL : Ln ≤ 3584) {M : pmM} (h : RLX M) {j u w : Nat} (hi : 7 * j + 7 ≤ Ln) (hu : u + 6 ≤ 628212) (hw : w + 36 ≤ 7131595) (kk : ∀ N, RLX N → Ev l (kLaw nm hl) (gS b Ln xs) room_1 86 (u + 6) (w + 36) 2200 [some (.ref 1000), some (.ref 0), some (.ref 64), some (.ref 84), some (.ref 85), some (.int (nI (7 * j))), none, none, none] [] N) : Ev l (kLaw nm hl) (gS b Ln xs) room_1 86 u w 643 [some (.ref 1000), some (.ref 0), some (.ref 64), some (.ref 84), some (.ref 85), some (.int (nI (7 * j))), none, none, none] [] M := by
  obtain ⟨k, M1, v, N, hk, h1, h2, h3, h4, h5⟩ := p_users hf h (xs (7 * j + 1))
  obtain ⟨od9, ho9⟩ := h5.mr
  refine e_aload_1 dL_law_643 rfl ?_
  refine e_aload_0 dL_law_644 rfl ?_
  refine e_iload_5 dL_law_645 rfl ?_
  refine e_iconst (v := nI 1) dL_law_647 rfl ic_1 ?_
  refine e_iadd dL_law_648 rfl ?_
  refine e_topi (nI (7 * j + 1)) (nI_add _ _) ?_
  refine e_sld dL_law_649 rfl rfl (by omega) hL ?_
  refine e_aload_3 dL_law_650 rfl ?_
  refine e_callW dL_law_651 rfl csL_155 h1 rfl rfl ⟨Nat.le_of_ble_eq_true rfl, Nat.le_of_ble_eq_true rfl⟩ ⟨show u + 1 ≤ 628212 by omega, show w + 6 * 1 ≤ 7131595 by omega⟩ rfl rfl (Nat.le_of_ble_eq_true rfl) ?_
  refine e_istore_6 dL_law_654 rfl (Nat.le_of_ble_eq_true rfl) rfl ?_
  refine e_aload_2 dL_law_656 rfl ?_
  refine e_aload_0 dL_law_657 rfl ?_
  refine e_iload_5 dL_law_658 rfl ?_
  refine e_iconst (v := nI 1) dL_law_660 rfl ic_1 ?_
  refine e_iadd dL_law_661 rfl ?_
  refine e_topi (nI (7 * j + 1)) (nI_add _ _) ?_
  refine e_sld dL_law_662 rfl rfl (by omega) hL ?_
  refine e_callV dL_law_663 rfl csL_157 h3 rfl rfl ps_64 (by decide) (by decide) ⟨Nat.le_of_ble_eq_true rfl, Nat.le_of_ble_eq_true rfl⟩ ⟨show _ ≤ 628212 by omega, show _ ≤ 7131595 by omega⟩ rfl rfl (Nat.le_of_ble_eq_true rfl) ?_
  refine e_istore_7 dL_law_666 rfl (Nat.le_of_ble_eq_true rfl) rfl ?_
  refine e_aload_2 dL_law_668 rfl ?_
  refine e_callV dL_law_669 rfl csL_131 (m_thrown hf ho9) rfl rfl ps_64 (by decide) (by decide) ⟨Nat.le_of_ble_eq_true rfl, Nat.le_of_ble_eq_true rfl⟩ ⟨show _ ≤ 628212 by omega, show _ ≤ 7131595 by omega⟩ rfl rfl (Nat.le_of_ble_eq_true rfl) ?_
  refine e_topi (nI k) h4 ?_
  refine e_iload_6 dL_law_672 rfl ?_
  refine e_nc_eq_t (tgt := 679) dL_law_674 (by decide) (by omega) (by omega) rfl ?_
  refine e_iload_6 dL_law_679 rfl ?_
  rcases Nat.eq_zero_or_pos k with hk0 | hk0
  · subst hk0
    have h2 := h2 rfl
    refine e_if_ne_f dL_law_681 rfl ⟨696, by decide⟩ (by decide) ?_
    refine e_aload_3 dL_law_684 rfl ?_
    refine e_iconst (v := nI 0) dL_law_685 rfl ic_0 ?_
    refine e_lald dL_law_686 rfl ps_84 (by decide) rfl (by omega) ?_
    refine e_iload_7 dL_law_687 rfl ?_
    refine e_i2l dL_law_689 rfl ?_
    refine e_lcmp dL_law_690 rfl ?_
    refine e_topi 0 (by rw [h2]; exact lg_cmp_self _) ?_
    refine e_if_eq_t (tgt := 696) dL_law_691 (by decide) rfl ?_
    refine e_goto (tgt := 2200) dL_law_696 (by decide) ?_
    refine e_weak (lo' := [some (.ref 1000), some (.ref 0), some (.ref 64), some (.ref 84), some (.ref 85), some (.int (nI (7 * j))), none, none, none]) (weak_c (weak_c (weak_c (weak_c (weak_c (weak_c (weak_n (weak_n (weak_n weak_nil))))))))) ?_
    refine e_wid (show _ ≤ u + 6 by omega) (show _ ≤ w + 36 by omega) ?_
    exact kk N h5
  · refine e_if_ne_t (tgt := 696) dL_law_681 (by decide) (nI_ne0 hk0 (by omega)) ?_
    refine e_goto (tgt := 2200) dL_law_696 (by decide) ?_
    refine e_weak (lo' := [some (.ref 1000), some (.ref 0), some (.ref 64), some (.ref 84), some (.ref 85), some (.int (nI (7 * j))), none, none, none]) (weak_c (weak_c (weak_c (weak_c (weak_c (weak_c (weak_n (weak_n (weak_n weak_nil))))))))) ?_
    refine e_wid (show _ ≤ u + 6 by omega) (show _ ≤ w + 36 by omega) ?_
    exact kk N h5
theorem lc_addRule {l : Launch} (hf : l.stackTraces = false) {nm : String} {hl : List (Nat × Nat × Nat × Nat)} {b Ln : Nat} {xs : Nat → Int32} (hL : Ln ≤ 3584) {M : pmM} (h : RLX M) {j u w : Nat} (hi : 7 * j + 7 ≤ Ln) (hu : u + 6 ≤ 628212) (hw : w + 36 ≤ 7131595) (kk : ∀ N, RLX N → Ev l (kLaw nm hl) (gS b Ln xs) room_1 86 (u + 6) (w + 36) 2200 [some (.ref 1000), some (.ref 0), some (.ref 64), some (.ref 84), some (.ref 85), some (.int (nI (7 * j))), none, none, none] [] N) : Ev l (kLaw nm hl) (gS b Ln xs) room_1 86 u w 699 [some (.ref 1000), some (.ref 0), some (.ref 64), some (.ref 84), some (.ref 85), some (.int (nI (7 * j))), none, none, none] [] M := by
  obtain ⟨k, M1, v, N, hk, h1, h2, h3, h4, h5⟩ := p_addRule hf h (xs (7 * j + 1)) ((xs (7 * j + 2)).toUInt32 % 65536).toInt32 (xs (7 * j + 3)) (xs (7 * j + 4)) (xs (7 * j + 5)) (xs (7 * j + 6))
  obtain ⟨od9, ho9⟩ := h5.mr
  refine e_aload_1 dL_law_699 rfl ?_
  refine e_aload_0 dL_law_700 rfl ?_
  refine e_iload_5 dL_law_701 rfl ?_
  refine e_iconst (v := nI 1) dL_law_703 rfl ic_1 ?_
  refine e_iadd dL_law_704 rfl ?_
  refine e_topi (nI (7 * j + 1)) (nI_add _ _) ?_
  refine e_sld dL_law_705 rfl rfl (by omega) hL ?_
  refine e_aload_0 dL_law_706 rfl ?_
  refine e_iload_5 dL_law_707 rfl ?_
  refine e_iconst (v := nI 2) dL_law_709 rfl ic_2 ?_
  refine e_iadd dL_law_710 rfl ?_
  refine e_topi (nI (7 * j + 2)) (nI_add _ _) ?_
  refine e_sld dL_law_711 rfl rfl (by omega) hL ?_
  refine e_i2c dL_law_712 rfl ?_
  refine e_aload_0 dL_law_713 rfl ?_
  refine e_iload_5 dL_law_714 rfl ?_
  refine e_iconst (v := nI 3) dL_law_716 rfl ic_3 ?_
  refine e_iadd dL_law_717 rfl ?_
  refine e_topi (nI (7 * j + 3)) (nI_add _ _) ?_
  refine e_sld dL_law_718 rfl rfl (by omega) hL ?_
  refine e_aload_0 dL_law_719 rfl ?_
  refine e_iload_5 dL_law_720 rfl ?_
  refine e_iconst (v := nI 4) dL_law_722 rfl ic_4 ?_
  refine e_iadd dL_law_723 rfl ?_
  refine e_topi (nI (7 * j + 4)) (nI_add _ _) ?_
  refine e_sld dL_law_724 rfl rfl (by omega) hL ?_
  refine e_aload_0 dL_law_725 rfl ?_
  refine e_iload_5 dL_law_726 rfl ?_
  refine e_iconst (v := nI 5) dL_law_728 rfl ic_5 ?_
  refine e_iadd dL_law_729 rfl ?_
  refine e_topi (nI (7 * j + 5)) (nI_add _ _) ?_
  refine e_sld dL_law_730 rfl rfl (by omega) hL ?_
  refine e_aload_0 dL_law_731 rfl ?_
  refine e_iload_5 dL_law_732 rfl ?_
  refine e_bipush (v := nI 6) dL_law_734 rfl bc_6 ?_
  refine e_iadd dL_law_736 rfl ?_
  refine e_topi (nI (7 * j + 6)) (nI_add _ _) ?_
  refine e_sld dL_law_737 rfl rfl (by omega) hL ?_
  refine e_aload_3 dL_law_738 rfl ?_
  refine e_callW dL_law_739 rfl csL_158 h1 rfl rfl ⟨Nat.le_of_ble_eq_true rfl, Nat.le_of_ble_eq_true rfl⟩ ⟨show u + 6 ≤ 628212 by omega, show w + 6 * 6 ≤ 7131595 by omega⟩ rfl rfl (Nat.le_of_ble_eq_true rfl) ?_
  refine e_istore_6 dL_law_742 rfl (Nat.le_of_ble_eq_true rfl) rfl ?_
  refine e_aload_2 dL_law_744 rfl ?_
  refine e_aload_0 dL_law_745 rfl ?_
  refine e_iload_5 dL_law_746 rfl ?_
  refine e_iconst (v := nI 1) dL_law_748 rfl ic_1 ?_
  refine e_iadd dL_law_749 rfl ?_
  refine e_topi (nI (7 * j + 1)) (nI_add _ _) ?_
  refine e_sld dL_law_750 rfl rfl (by omega) hL ?_
  refine e_aload_0 dL_law_751 rfl ?_
  refine e_iload_5 dL_law_752 rfl ?_
  refine e_iconst (v := nI 2) dL_law_754 rfl ic_2 ?_
  refine e_iadd dL_law_755 rfl ?_
  refine e_topi (nI (7 * j + 2)) (nI_add _ _) ?_
  refine e_sld dL_law_756 rfl rfl (by omega) hL ?_
  refine e_i2c dL_law_757 rfl ?_
  refine e_aload_0 dL_law_758 rfl ?_
  refine e_iload_5 dL_law_759 rfl ?_
  refine e_iconst (v := nI 3) dL_law_761 rfl ic_3 ?_
  refine e_iadd dL_law_762 rfl ?_
  refine e_topi (nI (7 * j + 3)) (nI_add _ _) ?_
  refine e_sld dL_law_763 rfl rfl (by omega) hL ?_
  refine e_aload_0 dL_law_764 rfl ?_
  refine e_iload_5 dL_law_765 rfl ?_
  refine e_iconst (v := nI 4) dL_law_767 rfl ic_4 ?_
  refine e_iadd dL_law_768 rfl ?_
  refine e_topi (nI (7 * j + 4)) (nI_add _ _) ?_
  refine e_sld dL_law_769 rfl rfl (by omega) hL ?_
  refine e_aload_0 dL_law_770 rfl ?_
  refine e_iload_5 dL_law_771 rfl ?_
  refine e_iconst (v := nI 5) dL_law_773 rfl ic_5 ?_
  refine e_iadd dL_law_774 rfl ?_
  refine e_topi (nI (7 * j + 5)) (nI_add _ _) ?_
  refine e_sld dL_law_775 rfl rfl (by omega) hL ?_
  refine e_aload_0 dL_law_776 rfl ?_
  refine e_iload_5 dL_law_777 rfl ?_
  refine e_bipush (v := nI 6) dL_law_779 rfl bc_6 ?_
  refine e_iadd dL_law_781 rfl ?_
  refine e_topi (nI (7 * j + 6)) (nI_add _ _) ?_
  refine e_sld dL_law_782 rfl rfl (by omega) hL ?_
  refine e_callV dL_law_783 rfl csL_161 h3 rfl rfl ps_64 (by decide) (by decide) ⟨Nat.le_of_ble_eq_true rfl, Nat.le_of_ble_eq_true rfl⟩ ⟨show _ ≤ 628212 by omega, show _ ≤ 7131595 by omega⟩ rfl rfl (Nat.le_of_ble_eq_true rfl) ?_
  refine e_istore_7 dL_law_786 rfl (Nat.le_of_ble_eq_true rfl) rfl ?_
  refine e_aload_2 dL_law_788 rfl ?_
  refine e_callV dL_law_789 rfl csL_131 (m_thrown hf ho9) rfl rfl ps_64 (by decide) (by decide) ⟨Nat.le_of_ble_eq_true rfl, Nat.le_of_ble_eq_true rfl⟩ ⟨show _ ≤ 628212 by omega, show _ ≤ 7131595 by omega⟩ rfl rfl (Nat.le_of_ble_eq_true rfl) ?_
  refine e_topi (nI k) h4 ?_
  refine e_iload_6 dL_law_792 rfl ?_
  refine e_nc_eq_t (tgt := 799) dL_law_794 (by decide) (by omega) (by omega) rfl ?_
  refine e_iload_6 dL_law_799 rfl ?_
  rcases Nat.eq_zero_or_pos k with hk0 | hk0
  · subst hk0
    have h2 := h2 rfl
    refine e_if_ne_f dL_law_801 rfl ⟨816, by decide⟩ (by decide) ?_
    refine e_aload_3 dL_law_804 rfl ?_
    refine e_iconst (v := nI 0) dL_law_805 rfl ic_0 ?_
    refine e_lald dL_law_806 rfl ps_84 (by decide) rfl (by omega) ?_
    refine e_iload_7 dL_law_807 rfl ?_
    refine e_i2l dL_law_809 rfl ?_
    refine e_lcmp dL_law_810 rfl ?_
    refine e_topi 0 (by rw [h2]; exact lg_cmp_self _) ?_
    refine e_if_eq_t (tgt := 816) dL_law_811 (by decide) rfl ?_
    refine e_goto (tgt := 2200) dL_law_816 (by decide) ?_
    refine e_weak (lo' := [some (.ref 1000), some (.ref 0), some (.ref 64), some (.ref 84), some (.ref 85), some (.int (nI (7 * j))), none, none, none]) (weak_c (weak_c (weak_c (weak_c (weak_c (weak_c (weak_n (weak_n (weak_n weak_nil))))))))) ?_
    refine e_wid (show _ ≤ u + 6 by omega) (show _ ≤ w + 36 by omega) ?_
    exact kk N h5
  · refine e_if_ne_t (tgt := 816) dL_law_801 (by decide) (nI_ne0 hk0 (by omega)) ?_
    refine e_goto (tgt := 2200) dL_law_816 (by decide) ?_
    refine e_weak (lo' := [some (.ref 1000), some (.ref 0), some (.ref 64), some (.ref 84), some (.ref 85), some (.int (nI (7 * j))), none, none, none]) (weak_c (weak_c (weak_c (weak_c (weak_c (weak_c (weak_n (weak_n (weak_n weak_nil))))))))) ?_
    refine e_wid (show _ ≤ u + 6 by omega) (show _ ≤ w + 36 by omega) ?_
    exact kk N h5
theorem lc_removeRule {l : Launch} (hf : l.stackTraces = false) {nm : String} {hl : List (Nat × Nat × Nat × Nat)} {b Ln : Nat} {xs : Nat → Int32} (hL : Ln ≤ 3584) {M : pmM} (h : RLX M) {j u w : Nat} (hi : 7 * j + 7 ≤ Ln) (hu : u + 6 ≤ 628212) (hw : w + 36 ≤ 7131595) (kk : ∀ N, RLX N → Ev l (kLaw nm hl) (gS b Ln xs) room_1 86 (u + 6) (w + 36) 2200 [some (.ref 1000), some (.ref 0), some (.ref 64), some (.ref 84), some (.ref 85), some (.int (nI (7 * j))), none, none, none] [] N) : Ev l (kLaw nm hl) (gS b Ln xs) room_1 86 u w 819 [some (.ref 1000), some (.ref 0), some (.ref 64), some (.ref 84), some (.ref 85), some (.int (nI (7 * j))), none, none, none] [] M := by
  obtain ⟨k, M1, v, N, hk, h1, h2, h3, h4, h5⟩ := p_removeRule hf h (xs (7 * j + 1))
  obtain ⟨od9, ho9⟩ := h5.mr
  refine e_aload_1 dL_law_819 rfl ?_
  refine e_aload_0 dL_law_820 rfl ?_
  refine e_iload_5 dL_law_821 rfl ?_
  refine e_iconst (v := nI 1) dL_law_823 rfl ic_1 ?_
  refine e_iadd dL_law_824 rfl ?_
  refine e_topi (nI (7 * j + 1)) (nI_add _ _) ?_
  refine e_sld dL_law_825 rfl rfl (by omega) hL ?_
  refine e_aload_3 dL_law_826 rfl ?_
  refine e_callW dL_law_827 rfl csL_162 h1 rfl rfl ⟨Nat.le_of_ble_eq_true rfl, Nat.le_of_ble_eq_true rfl⟩ ⟨show u + 1 ≤ 628212 by omega, show w + 6 * 1 ≤ 7131595 by omega⟩ rfl rfl (Nat.le_of_ble_eq_true rfl) ?_
  refine e_istore_6 dL_law_830 rfl (Nat.le_of_ble_eq_true rfl) rfl ?_
  refine e_aload_2 dL_law_832 rfl ?_
  refine e_aload_0 dL_law_833 rfl ?_
  refine e_iload_5 dL_law_834 rfl ?_
  refine e_iconst (v := nI 1) dL_law_836 rfl ic_1 ?_
  refine e_iadd dL_law_837 rfl ?_
  refine e_topi (nI (7 * j + 1)) (nI_add _ _) ?_
  refine e_sld dL_law_838 rfl rfl (by omega) hL ?_
  refine e_callV dL_law_839 rfl csL_164 h3 rfl rfl ps_64 (by decide) (by decide) ⟨Nat.le_of_ble_eq_true rfl, Nat.le_of_ble_eq_true rfl⟩ ⟨show _ ≤ 628212 by omega, show _ ≤ 7131595 by omega⟩ rfl rfl (Nat.le_of_ble_eq_true rfl) ?_
  refine e_istore_7 dL_law_842 rfl (Nat.le_of_ble_eq_true rfl) rfl ?_
  refine e_aload_2 dL_law_844 rfl ?_
  refine e_callV dL_law_845 rfl csL_131 (m_thrown hf ho9) rfl rfl ps_64 (by decide) (by decide) ⟨Nat.le_of_ble_eq_true rfl, Nat.le_of_ble_eq_true rfl⟩ ⟨show _ ≤ 628212 by omega, show _ ≤ 7131595 by omega⟩ rfl rfl (Nat.le_of_ble_eq_true rfl) ?_
  refine e_topi (nI k) h4 ?_
  refine e_iload_6 dL_law_848 rfl ?_
  refine e_nc_eq_t (tgt := 855) dL_law_850 (by decide) (by omega) (by omega) rfl ?_
  refine e_iload_6 dL_law_855 rfl ?_
  rcases Nat.eq_zero_or_pos k with hk0 | hk0
  · subst hk0
    have h2 := h2 rfl
    refine e_if_ne_f dL_law_857 rfl ⟨872, by decide⟩ (by decide) ?_
    refine e_aload_3 dL_law_860 rfl ?_
    refine e_iconst (v := nI 0) dL_law_861 rfl ic_0 ?_
    refine e_lald dL_law_862 rfl ps_84 (by decide) rfl (by omega) ?_
    refine e_iload_7 dL_law_863 rfl ?_
    refine e_i2l dL_law_865 rfl ?_
    refine e_lcmp dL_law_866 rfl ?_
    refine e_topi 0 (by rw [h2]; exact lg_cmp_self _) ?_
    refine e_if_eq_t (tgt := 872) dL_law_867 (by decide) rfl ?_
    refine e_goto (tgt := 2200) dL_law_872 (by decide) ?_
    refine e_weak (lo' := [some (.ref 1000), some (.ref 0), some (.ref 64), some (.ref 84), some (.ref 85), some (.int (nI (7 * j))), none, none, none]) (weak_c (weak_c (weak_c (weak_c (weak_c (weak_c (weak_n (weak_n (weak_n weak_nil))))))))) ?_
    refine e_wid (show _ ≤ u + 6 by omega) (show _ ≤ w + 36 by omega) ?_
    exact kk N h5
  · refine e_if_ne_t (tgt := 872) dL_law_857 (by decide) (nI_ne0 hk0 (by omega)) ?_
    refine e_goto (tgt := 2200) dL_law_872 (by decide) ?_
    refine e_weak (lo' := [some (.ref 1000), some (.ref 0), some (.ref 64), some (.ref 84), some (.ref 85), some (.int (nI (7 * j))), none, none, none]) (weak_c (weak_c (weak_c (weak_c (weak_c (weak_c (weak_n (weak_n (weak_n weak_nil))))))))) ?_
    refine e_wid (show _ ≤ u + 6 by omega) (show _ ≤ w + 36 by omega) ?_
    exact kk N h5
theorem lc_setLastDay {l : Launch} (hf : l.stackTraces = false) {nm : String} {hl : List (Nat × Nat × Nat × Nat)} {b Ln : Nat} {xs : Nat → Int32} (hL : Ln ≤ 3584) {M : pmM} (h : RLX M) {j u w : Nat} (hi : 7 * j + 7 ≤ Ln) (hu : u + 6 ≤ 628212) (hw : w + 36 ≤ 7131595) (kk : ∀ N, RLX N → Ev l (kLaw nm hl) (gS b Ln xs) room_1 86 (u + 6) (w + 36) 2200 [some (.ref 1000), some (.ref 0), some (.ref 64), some (.ref 84), some (.ref 85), some (.int (nI (7 * j))), none, none, none] [] N) : Ev l (kLaw nm hl) (gS b Ln xs) room_1 86 u w 875 [some (.ref 1000), some (.ref 0), some (.ref 64), some (.ref 84), some (.ref 85), some (.int (nI (7 * j))), none, none, none] [] M := by
  obtain ⟨k, M1, v, N, hk, h1, h2, h3, h4, h5⟩ := p_setLastDay hf h (xs (7 * j + 1)) (xs (7 * j + 2))
  obtain ⟨od9, ho9⟩ := h5.mr
  refine e_aload_1 dL_law_875 rfl ?_
  refine e_aload_0 dL_law_876 rfl ?_
  refine e_iload_5 dL_law_877 rfl ?_
  refine e_iconst (v := nI 1) dL_law_879 rfl ic_1 ?_
  refine e_iadd dL_law_880 rfl ?_
  refine e_topi (nI (7 * j + 1)) (nI_add _ _) ?_
  refine e_sld dL_law_881 rfl rfl (by omega) hL ?_
  refine e_aload_0 dL_law_882 rfl ?_
  refine e_iload_5 dL_law_883 rfl ?_
  refine e_iconst (v := nI 2) dL_law_885 rfl ic_2 ?_
  refine e_iadd dL_law_886 rfl ?_
  refine e_topi (nI (7 * j + 2)) (nI_add _ _) ?_
  refine e_sld dL_law_887 rfl rfl (by omega) hL ?_
  refine e_aload_3 dL_law_888 rfl ?_
  refine e_callW dL_law_889 rfl csL_165 h1 rfl rfl ⟨Nat.le_of_ble_eq_true rfl, Nat.le_of_ble_eq_true rfl⟩ ⟨show u + 2 ≤ 628212 by omega, show w + 6 * 2 ≤ 7131595 by omega⟩ rfl rfl (Nat.le_of_ble_eq_true rfl) ?_
  refine e_istore_6 dL_law_892 rfl (Nat.le_of_ble_eq_true rfl) rfl ?_
  refine e_aload_2 dL_law_894 rfl ?_
  refine e_aload_0 dL_law_895 rfl ?_
  refine e_iload_5 dL_law_896 rfl ?_
  refine e_iconst (v := nI 1) dL_law_898 rfl ic_1 ?_
  refine e_iadd dL_law_899 rfl ?_
  refine e_topi (nI (7 * j + 1)) (nI_add _ _) ?_
  refine e_sld dL_law_900 rfl rfl (by omega) hL ?_
  refine e_aload_0 dL_law_901 rfl ?_
  refine e_iload_5 dL_law_902 rfl ?_
  refine e_iconst (v := nI 2) dL_law_904 rfl ic_2 ?_
  refine e_iadd dL_law_905 rfl ?_
  refine e_topi (nI (7 * j + 2)) (nI_add _ _) ?_
  refine e_sld dL_law_906 rfl rfl (by omega) hL ?_
  refine e_callV dL_law_907 rfl csL_167 h3 rfl rfl ps_64 (by decide) (by decide) ⟨Nat.le_of_ble_eq_true rfl, Nat.le_of_ble_eq_true rfl⟩ ⟨show _ ≤ 628212 by omega, show _ ≤ 7131595 by omega⟩ rfl rfl (Nat.le_of_ble_eq_true rfl) ?_
  refine e_istore_7 dL_law_910 rfl (Nat.le_of_ble_eq_true rfl) rfl ?_
  refine e_aload_2 dL_law_912 rfl ?_
  refine e_callV dL_law_913 rfl csL_131 (m_thrown hf ho9) rfl rfl ps_64 (by decide) (by decide) ⟨Nat.le_of_ble_eq_true rfl, Nat.le_of_ble_eq_true rfl⟩ ⟨show _ ≤ 628212 by omega, show _ ≤ 7131595 by omega⟩ rfl rfl (Nat.le_of_ble_eq_true rfl) ?_
  refine e_topi (nI k) h4 ?_
  refine e_iload_6 dL_law_916 rfl ?_
  refine e_nc_eq_t (tgt := 923) dL_law_918 (by decide) (by omega) (by omega) rfl ?_
  refine e_iload_6 dL_law_923 rfl ?_
  rcases Nat.eq_zero_or_pos k with hk0 | hk0
  · subst hk0
    have h2 := h2 rfl
    refine e_if_ne_f dL_law_925 rfl ⟨940, by decide⟩ (by decide) ?_
    refine e_aload_3 dL_law_928 rfl ?_
    refine e_iconst (v := nI 0) dL_law_929 rfl ic_0 ?_
    refine e_lald dL_law_930 rfl ps_84 (by decide) rfl (by omega) ?_
    refine e_iload_7 dL_law_931 rfl ?_
    refine e_i2l dL_law_933 rfl ?_
    refine e_lcmp dL_law_934 rfl ?_
    refine e_topi 0 (by rw [h2]; exact lg_cmp_self _) ?_
    refine e_if_eq_t (tgt := 940) dL_law_935 (by decide) rfl ?_
    refine e_goto (tgt := 2200) dL_law_940 (by decide) ?_
    refine e_weak (lo' := [some (.ref 1000), some (.ref 0), some (.ref 64), some (.ref 84), some (.ref 85), some (.int (nI (7 * j))), none, none, none]) (weak_c (weak_c (weak_c (weak_c (weak_c (weak_c (weak_n (weak_n (weak_n weak_nil))))))))) ?_
    refine e_wid (show _ ≤ u + 6 by omega) (show _ ≤ w + 36 by omega) ?_
    exact kk N h5
  · refine e_if_ne_t (tgt := 940) dL_law_925 (by decide) (nI_ne0 hk0 (by omega)) ?_
    refine e_goto (tgt := 2200) dL_law_940 (by decide) ?_
    refine e_weak (lo' := [some (.ref 1000), some (.ref 0), some (.ref 64), some (.ref 84), some (.ref 85), some (.int (nI (7 * j))), none, none, none]) (weak_c (weak_c (weak_c (weak_c (weak_c (weak_c (weak_n (weak_n (weak_n weak_nil))))))))) ?_
    refine e_wid (show _ ≤ u + 6 by omega) (show _ ≤ w + 36 by omega) ?_
    exact kk N h5
theorem lc_rules {l : Launch} (hf : l.stackTraces = false) {nm : String} {hl : List (Nat × Nat × Nat × Nat)} {b Ln : Nat} {xs : Nat → Int32} (hL : Ln ≤ 3584) {M : pmM} (h : RLX M) {j u w : Nat} (hi : 7 * j + 7 ≤ Ln) (hu : u + 6 ≤ 628212) (hw : w + 36 ≤ 7131595) (kk : ∀ N, RLX N → Ev l (kLaw nm hl) (gS b Ln xs) room_1 86 (u + 6) (w + 36) 2200 [some (.ref 1000), some (.ref 0), some (.ref 64), some (.ref 84), some (.ref 85), some (.int (nI (7 * j))), none, none, none] [] N) : Ev l (kLaw nm hl) (gS b Ln xs) room_1 86 u w 943 [some (.ref 1000), some (.ref 0), some (.ref 64), some (.ref 84), some (.ref 85), some (.int (nI (7 * j))), none, none, none] [] M := by
  obtain ⟨M1, v, N, h1, h2, h3, h5⟩ := p_rules hf h
  refine e_aload_1 dL_law_943 rfl ?_
  refine e_callV dL_law_944 rfl csL_168 h1 rfl rfl ps_0 (by decide) (by decide) ⟨Nat.le_of_ble_eq_true rfl, Nat.le_of_ble_eq_true rfl⟩ ⟨show _ ≤ 628212 by omega, show _ ≤ 7131595 by omega⟩ rfl rfl (Nat.le_of_ble_eq_true rfl) ?_
  refine e_aload_2 dL_law_947 rfl ?_
  refine e_callV dL_law_948 rfl csL_171 h2 rfl rfl ps_64 (by decide) (by decide) ⟨Nat.le_of_ble_eq_true rfl, Nat.le_of_ble_eq_true rfl⟩ ⟨show _ ≤ 628212 by omega, show _ ≤ 7131595 by omega⟩ rfl rfl (Nat.le_of_ble_eq_true rfl) ?_
  refine e_ic_eq_t (tgt := 2200) dL_law_951 (by decide) rfl ?_
  refine e_weak (lo' := [some (.ref 1000), some (.ref 0), some (.ref 64), some (.ref 84), some (.ref 85), some (.int (nI (7 * j))), none, none, none]) (weak_c (weak_c (weak_c (weak_c (weak_c (weak_c (weak_n (weak_n (weak_n weak_nil))))))))) ?_
  refine e_wid (show _ ≤ u + 6 by omega) (show _ ≤ w + 36 by omega) ?_
  exact kk N h5
theorem lc_ruleAt {l : Launch} (hf : l.stackTraces = false) {nm : String} {hl : List (Nat × Nat × Nat × Nat)} {b Ln : Nat} {xs : Nat → Int32} (hL : Ln ≤ 3584) {M : pmM} (h : RLX M) {j u w : Nat} (hi : 7 * j + 7 ≤ Ln) (hu : u + 6 ≤ 628212) (hw : w + 36 ≤ 7131595) (kk : ∀ N, RLX N → Ev l (kLaw nm hl) (gS b Ln xs) room_1 86 (u + 6) (w + 36) 2200 [some (.ref 1000), some (.ref 0), some (.ref 64), some (.ref 84), some (.ref 85), some (.int (nI (7 * j))), none, none, none] [] N) : Ev l (kLaw nm hl) (gS b Ln xs) room_1 86 u w 956 [some (.ref 1000), some (.ref 0), some (.ref 64), some (.ref 84), some (.ref 85), some (.int (nI (7 * j))), none, none, none] [] M := by
  obtain ⟨k, M1, v, N, hk, h1, h2, h3, h4, h5⟩ := p_ruleAt hf h (xs (7 * j + 1))
  obtain ⟨od9, ho9⟩ := h5.mr
  refine e_aload_1 dL_law_956 rfl ?_
  refine e_aload_0 dL_law_957 rfl ?_
  refine e_iload_5 dL_law_958 rfl ?_
  refine e_iconst (v := nI 1) dL_law_960 rfl ic_1 ?_
  refine e_iadd dL_law_961 rfl ?_
  refine e_topi (nI (7 * j + 1)) (nI_add _ _) ?_
  refine e_sld dL_law_962 rfl rfl (by omega) hL ?_
  refine e_aload_3 dL_law_963 rfl ?_
  refine e_callW dL_law_964 rfl csL_172 h1 rfl rfl ⟨Nat.le_of_ble_eq_true rfl, Nat.le_of_ble_eq_true rfl⟩ ⟨show u + 1 ≤ 628212 by omega, show w + 6 * 1 ≤ 7131595 by omega⟩ rfl rfl (Nat.le_of_ble_eq_true rfl) ?_
  refine e_istore_6 dL_law_967 rfl (Nat.le_of_ble_eq_true rfl) rfl ?_
  refine e_aload_2 dL_law_969 rfl ?_
  refine e_aload_0 dL_law_970 rfl ?_
  refine e_iload_5 dL_law_971 rfl ?_
  refine e_iconst (v := nI 1) dL_law_973 rfl ic_1 ?_
  refine e_iadd dL_law_974 rfl ?_
  refine e_topi (nI (7 * j + 1)) (nI_add _ _) ?_
  refine e_sld dL_law_975 rfl rfl (by omega) hL ?_
  refine e_callV dL_law_976 rfl csL_174 h3 rfl rfl ps_64 (by decide) (by decide) ⟨Nat.le_of_ble_eq_true rfl, Nat.le_of_ble_eq_true rfl⟩ ⟨show _ ≤ 628212 by omega, show _ ≤ 7131595 by omega⟩ rfl rfl (Nat.le_of_ble_eq_true rfl) ?_
  refine e_istore_7 dL_law_979 rfl (Nat.le_of_ble_eq_true rfl) rfl ?_
  refine e_aload_2 dL_law_981 rfl ?_
  refine e_callV dL_law_982 rfl csL_131 (m_thrown hf ho9) rfl rfl ps_64 (by decide) (by decide) ⟨Nat.le_of_ble_eq_true rfl, Nat.le_of_ble_eq_true rfl⟩ ⟨show _ ≤ 628212 by omega, show _ ≤ 7131595 by omega⟩ rfl rfl (Nat.le_of_ble_eq_true rfl) ?_
  refine e_topi (nI k) h4 ?_
  refine e_iload_6 dL_law_985 rfl ?_
  refine e_nc_eq_t (tgt := 992) dL_law_987 (by decide) (by omega) (by omega) rfl ?_
  refine e_iload_6 dL_law_992 rfl ?_
  rcases Nat.eq_zero_or_pos k with hk0 | hk0
  · subst hk0
    have h2 := h2 rfl
    refine e_if_ne_f dL_law_994 rfl ⟨1009, by decide⟩ (by decide) ?_
    refine e_aload_3 dL_law_997 rfl ?_
    refine e_iconst (v := nI 0) dL_law_998 rfl ic_0 ?_
    refine e_lald dL_law_999 rfl ps_84 (by decide) rfl (by omega) ?_
    refine e_iload_7 dL_law_1000 rfl ?_
    refine e_i2l dL_law_1002 rfl ?_
    refine e_lcmp dL_law_1003 rfl ?_
    refine e_topi 0 (by rw [h2]; exact lg_cmp_self _) ?_
    refine e_if_eq_t (tgt := 1009) dL_law_1004 (by decide) rfl ?_
    refine e_goto (tgt := 2200) dL_law_1009 (by decide) ?_
    refine e_weak (lo' := [some (.ref 1000), some (.ref 0), some (.ref 64), some (.ref 84), some (.ref 85), some (.int (nI (7 * j))), none, none, none]) (weak_c (weak_c (weak_c (weak_c (weak_c (weak_c (weak_n (weak_n (weak_n weak_nil))))))))) ?_
    refine e_wid (show _ ≤ u + 6 by omega) (show _ ≤ w + 36 by omega) ?_
    exact kk N h5
  · refine e_if_ne_t (tgt := 1009) dL_law_994 (by decide) (nI_ne0 hk0 (by omega)) ?_
    refine e_goto (tgt := 2200) dL_law_1009 (by decide) ?_
    refine e_weak (lo' := [some (.ref 1000), some (.ref 0), some (.ref 64), some (.ref 84), some (.ref 85), some (.int (nI (7 * j))), none, none, none]) (weak_c (weak_c (weak_c (weak_c (weak_c (weak_c (weak_n (weak_n (weak_n weak_nil))))))))) ?_
    refine e_wid (show _ ≤ u + 6 by omega) (show _ ≤ w + 36 by omega) ?_
    exact kk N h5
theorem lc_isInForce {l : Launch} (hf : l.stackTraces = false) {nm : String} {hl : List (Nat × Nat × Nat × Nat)} {b Ln : Nat} {xs : Nat → Int32} (hL : Ln ≤ 3584) {M : pmM} (h : RLX M) {j u w : Nat} (hi : 7 * j + 7 ≤ Ln) (hu : u + 6 ≤ 628212) (hw : w + 36 ≤ 7131595) (kk : ∀ N, RLX N → Ev l (kLaw nm hl) (gS b Ln xs) room_1 86 (u + 6) (w + 36) 2200 [some (.ref 1000), some (.ref 0), some (.ref 64), some (.ref 84), some (.ref 85), some (.int (nI (7 * j))), none, none, none] [] N) : Ev l (kLaw nm hl) (gS b Ln xs) room_1 86 u w 1012 [some (.ref 1000), some (.ref 0), some (.ref 64), some (.ref 84), some (.ref 85), some (.int (nI (7 * j))), none, none, none] [] M := by
  obtain ⟨k, M1, q, N, hk, h1, h2, h3, h4, h5⟩ := p_isInForce hf h (xs (7 * j + 1))
  obtain ⟨od9, ho9⟩ := h5.mr
  refine e_aload_1 dL_law_1012 rfl ?_
  refine e_aload_0 dL_law_1013 rfl ?_
  refine e_iload_5 dL_law_1014 rfl ?_
  refine e_iconst (v := nI 1) dL_law_1016 rfl ic_1 ?_
  refine e_iadd dL_law_1017 rfl ?_
  refine e_topi (nI (7 * j + 1)) (nI_add _ _) ?_
  refine e_sld dL_law_1018 rfl rfl (by omega) hL ?_
  refine e_aload_3 dL_law_1019 rfl ?_
  refine e_callW dL_law_1020 rfl csL_175 h1 rfl rfl ⟨Nat.le_of_ble_eq_true rfl, Nat.le_of_ble_eq_true rfl⟩ ⟨show u + 1 ≤ 628212 by omega, show w + 6 * 1 ≤ 7131595 by omega⟩ rfl rfl (Nat.le_of_ble_eq_true rfl) ?_
  refine e_istore_6 dL_law_1023 rfl (Nat.le_of_ble_eq_true rfl) rfl ?_
  refine e_aload_2 dL_law_1025 rfl ?_
  refine e_aload_0 dL_law_1026 rfl ?_
  refine e_iload_5 dL_law_1027 rfl ?_
  refine e_iconst (v := nI 1) dL_law_1029 rfl ic_1 ?_
  refine e_iadd dL_law_1030 rfl ?_
  refine e_topi (nI (7 * j + 1)) (nI_add _ _) ?_
  refine e_sld dL_law_1031 rfl rfl (by omega) hL ?_
  refine e_callV dL_law_1032 rfl csL_177 h3 rfl rfl ps_64 (by decide) (by decide) ⟨Nat.le_of_ble_eq_true rfl, Nat.le_of_ble_eq_true rfl⟩ ⟨show _ ≤ 628212 by omega, show _ ≤ 7131595 by omega⟩ rfl rfl (Nat.le_of_ble_eq_true rfl) ?_
  refine e_istore_7 dL_law_1035 rfl (Nat.le_of_ble_eq_true rfl) rfl ?_
  refine e_aload_2 dL_law_1037 rfl ?_
  refine e_callV dL_law_1038 rfl csL_131 (m_thrown hf ho9) rfl rfl ps_64 (by decide) (by decide) ⟨Nat.le_of_ble_eq_true rfl, Nat.le_of_ble_eq_true rfl⟩ ⟨show _ ≤ 628212 by omega, show _ ≤ 7131595 by omega⟩ rfl rfl (Nat.le_of_ble_eq_true rfl) ?_
  refine e_topi (nI k) h4 ?_
  refine e_iload_6 dL_law_1041 rfl ?_
  refine e_nc_eq_t (tgt := 1048) dL_law_1043 (by decide) (by omega) (by omega) rfl ?_
  refine e_iload_6 dL_law_1048 rfl ?_
  rcases Nat.eq_zero_or_pos k with hk0 | hk0
  · subst hk0
    have h2 := h2 rfl
    refine e_if_ne_f dL_law_1050 rfl ⟨1072, by decide⟩ (by decide) ?_
    refine e_aload_3 dL_law_1053 rfl ?_
    refine e_iconst (v := nI 0) dL_law_1054 rfl ic_0 ?_
    refine e_lald dL_law_1055 rfl ps_84 (by decide) rfl (by omega) ?_
    refine e_iload_7 dL_law_1056 rfl ?_
    cases q with
    | false =>
      refine e_if_eq_t (tgt := 1065) dL_law_1058 (by decide) (bI0 rfl) ?_
      refine e_lconst (v := 0) dL_law_1065 rfl rfl ?_
      refine e_lcmp dL_law_1066 rfl ?_
      refine e_topi 0 (by rw [h2]; exact lg_cmp_self _) ?_
      refine e_if_eq_t (tgt := 1072) dL_law_1067 (by decide) rfl ?_
      refine e_goto (tgt := 2200) dL_law_1072 (by decide) ?_
      refine e_weak (lo' := [some (.ref 1000), some (.ref 0), some (.ref 64), some (.ref 84), some (.ref 85), some (.int (nI (7 * j))), none, none, none]) (weak_c (weak_c (weak_c (weak_c (weak_c (weak_c (weak_n (weak_n (weak_n weak_nil))))))))) ?_
      refine e_wid (show _ ≤ u + 6 by omega) (show _ ≤ w + 36 by omega) ?_
      exact kk N h5
    | true =>
      refine e_if_eq_f dL_law_1058 rfl ⟨1065, by decide⟩ (bI1 rfl) ?_
      refine e_lconst (v := 1) dL_law_1061 rfl rfl ?_
      refine e_goto (tgt := 1066) dL_law_1062 (by decide) ?_
      refine e_lcmp dL_law_1066 rfl ?_
      refine e_topi 0 (by rw [h2]; exact lg_cmp_self _) ?_
      refine e_if_eq_t (tgt := 1072) dL_law_1067 (by decide) rfl ?_
      refine e_goto (tgt := 2200) dL_law_1072 (by decide) ?_
      refine e_weak (lo' := [some (.ref 1000), some (.ref 0), some (.ref 64), some (.ref 84), some (.ref 85), some (.int (nI (7 * j))), none, none, none]) (weak_c (weak_c (weak_c (weak_c (weak_c (weak_c (weak_n (weak_n (weak_n weak_nil))))))))) ?_
      refine e_wid (show _ ≤ u + 6 by omega) (show _ ≤ w + 36 by omega) ?_
      exact kk N h5
  · refine e_if_ne_t (tgt := 1072) dL_law_1050 (by decide) (nI_ne0 hk0 (by omega)) ?_
    refine e_goto (tgt := 2200) dL_law_1072 (by decide) ?_
    refine e_weak (lo' := [some (.ref 1000), some (.ref 0), some (.ref 64), some (.ref 84), some (.ref 85), some (.int (nI (7 * j))), none, none, none]) (weak_c (weak_c (weak_c (weak_c (weak_c (weak_c (weak_n (weak_n (weak_n weak_nil))))))))) ?_
    refine e_wid (show _ ≤ u + 6 by omega) (show _ ≤ w + 36 by omega) ?_
    exact kk N h5
theorem lc_expiring {l : Launch} (hf : l.stackTraces = false) {nm : String} {hl : List (Nat × Nat × Nat × Nat)} {b Ln : Nat} {xs : Nat → Int32} (hL : Ln ≤ 3584) {M : pmM} (h : RLX M) {j u w : Nat} (hi : 7 * j + 7 ≤ Ln) (hu : u + 6 ≤ 628212) (hw : w + 36 ≤ 7131595) (kk : ∀ N, RLX N → Ev l (kLaw nm hl) (gS b Ln xs) room_1 86 (u + 6) (w + 36) 2200 [some (.ref 1000), some (.ref 0), some (.ref 64), some (.ref 84), some (.ref 85), some (.int (nI (7 * j))), none, none, none] [] N) : Ev l (kLaw nm hl) (gS b Ln xs) room_1 86 u w 1075 [some (.ref 1000), some (.ref 0), some (.ref 64), some (.ref 84), some (.ref 85), some (.int (nI (7 * j))), none, none, none] [] M := by
  obtain ⟨k, M1, v, N, hk, h1, h2, h3, h4, h5⟩ := p_expiring hf h (xs (7 * j + 1)) (xs (7 * j + 2))
  obtain ⟨od9, ho9⟩ := h5.mr
  refine e_aload_1 dL_law_1075 rfl ?_
  refine e_aload_0 dL_law_1076 rfl ?_
  refine e_iload_5 dL_law_1077 rfl ?_
  refine e_iconst (v := nI 1) dL_law_1079 rfl ic_1 ?_
  refine e_iadd dL_law_1080 rfl ?_
  refine e_topi (nI (7 * j + 1)) (nI_add _ _) ?_
  refine e_sld dL_law_1081 rfl rfl (by omega) hL ?_
  refine e_aload_0 dL_law_1082 rfl ?_
  refine e_iload_5 dL_law_1083 rfl ?_
  refine e_iconst (v := nI 2) dL_law_1085 rfl ic_2 ?_
  refine e_iadd dL_law_1086 rfl ?_
  refine e_topi (nI (7 * j + 2)) (nI_add _ _) ?_
  refine e_sld dL_law_1087 rfl rfl (by omega) hL ?_
  refine e_aload_3 dL_law_1088 rfl ?_
  refine e_callW dL_law_1089 rfl csL_178 h1 rfl rfl ⟨Nat.le_of_ble_eq_true rfl, Nat.le_of_ble_eq_true rfl⟩ ⟨show u + 2 ≤ 628212 by omega, show w + 6 * 2 ≤ 7131595 by omega⟩ rfl rfl (Nat.le_of_ble_eq_true rfl) ?_
  refine e_istore_6 dL_law_1092 rfl (Nat.le_of_ble_eq_true rfl) rfl ?_
  refine e_aload_2 dL_law_1094 rfl ?_
  refine e_aload_0 dL_law_1095 rfl ?_
  refine e_iload_5 dL_law_1096 rfl ?_
  refine e_iconst (v := nI 1) dL_law_1098 rfl ic_1 ?_
  refine e_iadd dL_law_1099 rfl ?_
  refine e_topi (nI (7 * j + 1)) (nI_add _ _) ?_
  refine e_sld dL_law_1100 rfl rfl (by omega) hL ?_
  refine e_aload_0 dL_law_1101 rfl ?_
  refine e_iload_5 dL_law_1102 rfl ?_
  refine e_iconst (v := nI 2) dL_law_1104 rfl ic_2 ?_
  refine e_iadd dL_law_1105 rfl ?_
  refine e_topi (nI (7 * j + 2)) (nI_add _ _) ?_
  refine e_sld dL_law_1106 rfl rfl (by omega) hL ?_
  refine e_callV dL_law_1107 rfl csL_180 h3 rfl rfl ps_64 (by decide) (by decide) ⟨Nat.le_of_ble_eq_true rfl, Nat.le_of_ble_eq_true rfl⟩ ⟨show _ ≤ 628212 by omega, show _ ≤ 7131595 by omega⟩ rfl rfl (Nat.le_of_ble_eq_true rfl) ?_
  refine e_istore_7 dL_law_1110 rfl (Nat.le_of_ble_eq_true rfl) rfl ?_
  refine e_aload_2 dL_law_1112 rfl ?_
  refine e_callV dL_law_1113 rfl csL_131 (m_thrown hf ho9) rfl rfl ps_64 (by decide) (by decide) ⟨Nat.le_of_ble_eq_true rfl, Nat.le_of_ble_eq_true rfl⟩ ⟨show _ ≤ 628212 by omega, show _ ≤ 7131595 by omega⟩ rfl rfl (Nat.le_of_ble_eq_true rfl) ?_
  refine e_topi (nI k) h4 ?_
  refine e_iload_6 dL_law_1116 rfl ?_
  refine e_nc_eq_t (tgt := 1123) dL_law_1118 (by decide) (by omega) (by omega) rfl ?_
  refine e_iload_6 dL_law_1123 rfl ?_
  rcases Nat.eq_zero_or_pos k with hk0 | hk0
  · subst hk0
    have h2 := h2 rfl
    refine e_if_ne_f dL_law_1125 rfl ⟨1140, by decide⟩ (by decide) ?_
    refine e_aload_3 dL_law_1128 rfl ?_
    refine e_iconst (v := nI 0) dL_law_1129 rfl ic_0 ?_
    refine e_lald dL_law_1130 rfl ps_84 (by decide) rfl (by omega) ?_
    refine e_iload_7 dL_law_1131 rfl ?_
    refine e_i2l dL_law_1133 rfl ?_
    refine e_lcmp dL_law_1134 rfl ?_
    refine e_topi 0 (by rw [h2]; exact lg_cmp_self _) ?_
    refine e_if_eq_t (tgt := 1140) dL_law_1135 (by decide) rfl ?_
    refine e_goto (tgt := 2200) dL_law_1140 (by decide) ?_
    refine e_weak (lo' := [some (.ref 1000), some (.ref 0), some (.ref 64), some (.ref 84), some (.ref 85), some (.int (nI (7 * j))), none, none, none]) (weak_c (weak_c (weak_c (weak_c (weak_c (weak_c (weak_n (weak_n (weak_n weak_nil))))))))) ?_
    refine e_wid (show _ ≤ u + 6 by omega) (show _ ≤ w + 36 by omega) ?_
    exact kk N h5
  · refine e_if_ne_t (tgt := 1140) dL_law_1125 (by decide) (nI_ne0 hk0 (by omega)) ?_
    refine e_goto (tgt := 2200) dL_law_1140 (by decide) ?_
    refine e_weak (lo' := [some (.ref 1000), some (.ref 0), some (.ref 64), some (.ref 84), some (.ref 85), some (.int (nI (7 * j))), none, none, none]) (weak_c (weak_c (weak_c (weak_c (weak_c (weak_c (weak_n (weak_n (weak_n weak_nil))))))))) ?_
    refine e_wid (show _ ≤ u + 6 by omega) (show _ ≤ w + 36 by omega) ?_
    exact kk N h5
theorem lc_packet {l : Launch} (hf : l.stackTraces = false) {nm : String} {hl : List (Nat × Nat × Nat × Nat)} {b Ln : Nat} {xs : Nat → Int32} (hL : Ln ≤ 3584) {M : pmM} (h : RLX M) {j u w : Nat} (hi : 7 * j + 7 ≤ Ln) (hu : u + 6 ≤ 628212) (hw : w + 36 ≤ 7131595) (kk : ∀ N, RLX N → Ev l (kLaw nm hl) (gS b Ln xs) room_1 86 (u + 6) (w + 36) 2200 [some (.ref 1000), some (.ref 0), some (.ref 64), some (.ref 84), some (.ref 85), some (.int (nI (7 * j))), none, none, none] [] N) : Ev l (kLaw nm hl) (gS b Ln xs) room_1 86 u w 1143 [some (.ref 1000), some (.ref 0), some (.ref 64), some (.ref 84), some (.ref 85), some (.int (nI (7 * j))), none, none, none] [] M := by
  obtain ⟨k, M1, v, N, hk, h1, h2, h3, h4, h5⟩ := p_packet hf h (xs (7 * j + 1)) (xs (7 * j + 2)) (xs (7 * j + 3))
  obtain ⟨od9, ho9⟩ := h5.mr
  refine e_aload_1 dL_law_1143 rfl ?_
  refine e_aload_0 dL_law_1144 rfl ?_
  refine e_iload_5 dL_law_1145 rfl ?_
  refine e_iconst (v := nI 1) dL_law_1147 rfl ic_1 ?_
  refine e_iadd dL_law_1148 rfl ?_
  refine e_topi (nI (7 * j + 1)) (nI_add _ _) ?_
  refine e_sld dL_law_1149 rfl rfl (by omega) hL ?_
  refine e_aload_0 dL_law_1150 rfl ?_
  refine e_iload_5 dL_law_1151 rfl ?_
  refine e_iconst (v := nI 2) dL_law_1153 rfl ic_2 ?_
  refine e_iadd dL_law_1154 rfl ?_
  refine e_topi (nI (7 * j + 2)) (nI_add _ _) ?_
  refine e_sld dL_law_1155 rfl rfl (by omega) hL ?_
  refine e_aload_0 dL_law_1156 rfl ?_
  refine e_iload_5 dL_law_1157 rfl ?_
  refine e_iconst (v := nI 3) dL_law_1159 rfl ic_3 ?_
  refine e_iadd dL_law_1160 rfl ?_
  refine e_topi (nI (7 * j + 3)) (nI_add _ _) ?_
  refine e_sld dL_law_1161 rfl rfl (by omega) hL ?_
  refine e_aload_3 dL_law_1162 rfl ?_
  refine e_callW dL_law_1163 rfl csL_181 h1 rfl rfl ⟨Nat.le_of_ble_eq_true rfl, Nat.le_of_ble_eq_true rfl⟩ ⟨show u + 3 ≤ 628212 by omega, show w + 6 * 3 ≤ 7131595 by omega⟩ rfl rfl (Nat.le_of_ble_eq_true rfl) ?_
  refine e_istore_6 dL_law_1166 rfl (Nat.le_of_ble_eq_true rfl) rfl ?_
  refine e_aload_2 dL_law_1168 rfl ?_
  refine e_aload_0 dL_law_1169 rfl ?_
  refine e_iload_5 dL_law_1170 rfl ?_
  refine e_iconst (v := nI 1) dL_law_1172 rfl ic_1 ?_
  refine e_iadd dL_law_1173 rfl ?_
  refine e_topi (nI (7 * j + 1)) (nI_add _ _) ?_
  refine e_sld dL_law_1174 rfl rfl (by omega) hL ?_
  refine e_aload_0 dL_law_1175 rfl ?_
  refine e_iload_5 dL_law_1176 rfl ?_
  refine e_iconst (v := nI 2) dL_law_1178 rfl ic_2 ?_
  refine e_iadd dL_law_1179 rfl ?_
  refine e_topi (nI (7 * j + 2)) (nI_add _ _) ?_
  refine e_sld dL_law_1180 rfl rfl (by omega) hL ?_
  refine e_aload_0 dL_law_1181 rfl ?_
  refine e_iload_5 dL_law_1182 rfl ?_
  refine e_iconst (v := nI 3) dL_law_1184 rfl ic_3 ?_
  refine e_iadd dL_law_1185 rfl ?_
  refine e_topi (nI (7 * j + 3)) (nI_add _ _) ?_
  refine e_sld dL_law_1186 rfl rfl (by omega) hL ?_
  refine e_callV dL_law_1187 rfl csL_183 h3 rfl rfl ps_64 (by decide) (by decide) ⟨Nat.le_of_ble_eq_true rfl, Nat.le_of_ble_eq_true rfl⟩ ⟨show _ ≤ 628212 by omega, show _ ≤ 7131595 by omega⟩ rfl rfl (Nat.le_of_ble_eq_true rfl) ?_
  refine e_istore_7 dL_law_1190 rfl (Nat.le_of_ble_eq_true rfl) rfl ?_
  refine e_aload_2 dL_law_1192 rfl ?_
  refine e_callV dL_law_1193 rfl csL_131 (m_thrown hf ho9) rfl rfl ps_64 (by decide) (by decide) ⟨Nat.le_of_ble_eq_true rfl, Nat.le_of_ble_eq_true rfl⟩ ⟨show _ ≤ 628212 by omega, show _ ≤ 7131595 by omega⟩ rfl rfl (Nat.le_of_ble_eq_true rfl) ?_
  refine e_topi (nI k) h4 ?_
  refine e_iload_6 dL_law_1196 rfl ?_
  refine e_nc_eq_t (tgt := 1203) dL_law_1198 (by decide) (by omega) (by omega) rfl ?_
  refine e_iload_6 dL_law_1203 rfl ?_
  rcases Nat.eq_zero_or_pos k with hk0 | hk0
  · subst hk0
    have h2 := h2 rfl
    refine e_if_ne_f dL_law_1205 rfl ⟨1220, by decide⟩ (by decide) ?_
    refine e_aload_3 dL_law_1208 rfl ?_
    refine e_iconst (v := nI 0) dL_law_1209 rfl ic_0 ?_
    refine e_lald dL_law_1210 rfl ps_84 (by decide) rfl (by omega) ?_
    refine e_iload_7 dL_law_1211 rfl ?_
    refine e_i2l dL_law_1213 rfl ?_
    refine e_lcmp dL_law_1214 rfl ?_
    refine e_topi 0 (by rw [h2]; exact lg_cmp_self _) ?_
    refine e_if_eq_t (tgt := 1220) dL_law_1215 (by decide) rfl ?_
    refine e_goto (tgt := 2200) dL_law_1220 (by decide) ?_
    refine e_weak (lo' := [some (.ref 1000), some (.ref 0), some (.ref 64), some (.ref 84), some (.ref 85), some (.int (nI (7 * j))), none, none, none]) (weak_c (weak_c (weak_c (weak_c (weak_c (weak_c (weak_n (weak_n (weak_n weak_nil))))))))) ?_
    refine e_wid (show _ ≤ u + 6 by omega) (show _ ≤ w + 36 by omega) ?_
    exact kk N h5
  · refine e_if_ne_t (tgt := 1220) dL_law_1205 (by decide) (nI_ne0 hk0 (by omega)) ?_
    refine e_goto (tgt := 2200) dL_law_1220 (by decide) ?_
    refine e_weak (lo' := [some (.ref 1000), some (.ref 0), some (.ref 64), some (.ref 84), some (.ref 85), some (.int (nI (7 * j))), none, none, none]) (weak_c (weak_c (weak_c (weak_c (weak_c (weak_c (weak_n (weak_n (weak_n weak_nil))))))))) ?_
    refine e_wid (show _ ≤ u + 6 by omega) (show _ ≤ w + 36 by omega) ?_
    exact kk N h5
theorem lc_decider {l : Launch} (hf : l.stackTraces = false) {nm : String} {hl : List (Nat × Nat × Nat × Nat)} {b Ln : Nat} {xs : Nat → Int32} (hL : Ln ≤ 3584) {M : pmM} (h : RLX M) {j u w : Nat} (hi : 7 * j + 7 ≤ Ln) (hu : u + 6 ≤ 628212) (hw : w + 36 ≤ 7131595) (kk : ∀ N, RLX N → Ev l (kLaw nm hl) (gS b Ln xs) room_1 86 (u + 6) (w + 36) 2200 [some (.ref 1000), some (.ref 0), some (.ref 64), some (.ref 84), some (.ref 85), some (.int (nI (7 * j))), none, none, none] [] N) : Ev l (kLaw nm hl) (gS b Ln xs) room_1 86 u w 1223 [some (.ref 1000), some (.ref 0), some (.ref 64), some (.ref 84), some (.ref 85), some (.int (nI (7 * j))), none, none, none] [] M := by
  obtain ⟨k, M1, v, N, hk, h1, h2, h3, h4, h5⟩ := p_decider hf h (xs (7 * j + 1)) (xs (7 * j + 2)) (xs (7 * j + 3))
  obtain ⟨od9, ho9⟩ := h5.mr
  refine e_aload_1 dL_law_1223 rfl ?_
  refine e_aload_0 dL_law_1224 rfl ?_
  refine e_iload_5 dL_law_1225 rfl ?_
  refine e_iconst (v := nI 1) dL_law_1227 rfl ic_1 ?_
  refine e_iadd dL_law_1228 rfl ?_
  refine e_topi (nI (7 * j + 1)) (nI_add _ _) ?_
  refine e_sld dL_law_1229 rfl rfl (by omega) hL ?_
  refine e_aload_0 dL_law_1230 rfl ?_
  refine e_iload_5 dL_law_1231 rfl ?_
  refine e_iconst (v := nI 2) dL_law_1233 rfl ic_2 ?_
  refine e_iadd dL_law_1234 rfl ?_
  refine e_topi (nI (7 * j + 2)) (nI_add _ _) ?_
  refine e_sld dL_law_1235 rfl rfl (by omega) hL ?_
  refine e_aload_0 dL_law_1236 rfl ?_
  refine e_iload_5 dL_law_1237 rfl ?_
  refine e_iconst (v := nI 3) dL_law_1239 rfl ic_3 ?_
  refine e_iadd dL_law_1240 rfl ?_
  refine e_topi (nI (7 * j + 3)) (nI_add _ _) ?_
  refine e_sld dL_law_1241 rfl rfl (by omega) hL ?_
  refine e_aload_3 dL_law_1242 rfl ?_
  refine e_callW dL_law_1243 rfl csL_184 h1 rfl rfl ⟨Nat.le_of_ble_eq_true rfl, Nat.le_of_ble_eq_true rfl⟩ ⟨show u + 3 ≤ 628212 by omega, show w + 6 * 3 ≤ 7131595 by omega⟩ rfl rfl (Nat.le_of_ble_eq_true rfl) ?_
  refine e_istore_6 dL_law_1246 rfl (Nat.le_of_ble_eq_true rfl) rfl ?_
  refine e_aload_2 dL_law_1248 rfl ?_
  refine e_aload_0 dL_law_1249 rfl ?_
  refine e_iload_5 dL_law_1250 rfl ?_
  refine e_iconst (v := nI 1) dL_law_1252 rfl ic_1 ?_
  refine e_iadd dL_law_1253 rfl ?_
  refine e_topi (nI (7 * j + 1)) (nI_add _ _) ?_
  refine e_sld dL_law_1254 rfl rfl (by omega) hL ?_
  refine e_aload_0 dL_law_1255 rfl ?_
  refine e_iload_5 dL_law_1256 rfl ?_
  refine e_iconst (v := nI 2) dL_law_1258 rfl ic_2 ?_
  refine e_iadd dL_law_1259 rfl ?_
  refine e_topi (nI (7 * j + 2)) (nI_add _ _) ?_
  refine e_sld dL_law_1260 rfl rfl (by omega) hL ?_
  refine e_aload_0 dL_law_1261 rfl ?_
  refine e_iload_5 dL_law_1262 rfl ?_
  refine e_iconst (v := nI 3) dL_law_1264 rfl ic_3 ?_
  refine e_iadd dL_law_1265 rfl ?_
  refine e_topi (nI (7 * j + 3)) (nI_add _ _) ?_
  refine e_sld dL_law_1266 rfl rfl (by omega) hL ?_
  refine e_callV dL_law_1267 rfl csL_186 h3 rfl rfl ps_64 (by decide) (by decide) ⟨Nat.le_of_ble_eq_true rfl, Nat.le_of_ble_eq_true rfl⟩ ⟨show _ ≤ 628212 by omega, show _ ≤ 7131595 by omega⟩ rfl rfl (Nat.le_of_ble_eq_true rfl) ?_
  refine e_istore_7 dL_law_1270 rfl (Nat.le_of_ble_eq_true rfl) rfl ?_
  refine e_aload_2 dL_law_1272 rfl ?_
  refine e_callV dL_law_1273 rfl csL_131 (m_thrown hf ho9) rfl rfl ps_64 (by decide) (by decide) ⟨Nat.le_of_ble_eq_true rfl, Nat.le_of_ble_eq_true rfl⟩ ⟨show _ ≤ 628212 by omega, show _ ≤ 7131595 by omega⟩ rfl rfl (Nat.le_of_ble_eq_true rfl) ?_
  refine e_topi (nI k) h4 ?_
  refine e_iload_6 dL_law_1276 rfl ?_
  refine e_nc_eq_t (tgt := 1283) dL_law_1278 (by decide) (by omega) (by omega) rfl ?_
  refine e_iload_6 dL_law_1283 rfl ?_
  rcases Nat.eq_zero_or_pos k with hk0 | hk0
  · subst hk0
    have h2 := h2 rfl
    refine e_if_ne_f dL_law_1285 rfl ⟨1300, by decide⟩ (by decide) ?_
    refine e_aload_3 dL_law_1288 rfl ?_
    refine e_iconst (v := nI 0) dL_law_1289 rfl ic_0 ?_
    refine e_lald dL_law_1290 rfl ps_84 (by decide) rfl (by omega) ?_
    refine e_iload_7 dL_law_1291 rfl ?_
    refine e_i2l dL_law_1293 rfl ?_
    refine e_lcmp dL_law_1294 rfl ?_
    refine e_topi 0 (by rw [h2]; exact lg_cmp_self _) ?_
    refine e_if_eq_t (tgt := 1300) dL_law_1295 (by decide) rfl ?_
    refine e_goto (tgt := 2200) dL_law_1300 (by decide) ?_
    refine e_weak (lo' := [some (.ref 1000), some (.ref 0), some (.ref 64), some (.ref 84), some (.ref 85), some (.int (nI (7 * j))), none, none, none]) (weak_c (weak_c (weak_c (weak_c (weak_c (weak_c (weak_n (weak_n (weak_n weak_nil))))))))) ?_
    refine e_wid (show _ ≤ u + 6 by omega) (show _ ≤ w + 36 by omega) ?_
    exact kk N h5
  · refine e_if_ne_t (tgt := 1300) dL_law_1285 (by decide) (nI_ne0 hk0 (by omega)) ?_
    refine e_goto (tgt := 2200) dL_law_1300 (by decide) ?_
    refine e_weak (lo' := [some (.ref 1000), some (.ref 0), some (.ref 64), some (.ref 84), some (.ref 85), some (.int (nI (7 * j))), none, none, none]) (weak_c (weak_c (weak_c (weak_c (weak_c (weak_c (weak_n (weak_n (weak_n weak_nil))))))))) ?_
    refine e_wid (show _ ≤ u + 6 by omega) (show _ ≤ w + 36 by omega) ?_
    exact kk N h5
