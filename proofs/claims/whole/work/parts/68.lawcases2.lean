/-! ===== law: the other cases ===== -/
theorem lc_hits {l : Launch} (hf : l.stackTraces = false) {nm : String} {hl : List (Nat × Nat × Nat × Nat)} {b Ln : Nat} {xs : Nat → Int32} (hL : Ln ≤ 3584) {M : pmM} (h : RLX M) {j u w : Nat} (hi : 7 * j + 7 ≤ Ln) (hu : u + 6 ≤ 628212) (hw : w + 36 ≤ 7131595) (kk : ∀ N, RLX N → Ev l (kLaw nm hl) (gS b Ln xs) room_1 86 (u + 6) (w + 36) 2200 [some (.ref 1000), some (.ref 0), some (.ref 64), some (.ref 84), some (.ref 85), some (.int (nI (7 * j))), none, none, none] [] N) : Ev l (kLaw nm hl) (gS b Ln xs) room_1 86 u w 1303 [some (.ref 1000), some (.ref 0), some (.ref 64), some (.ref 84), some (.ref 85), some (.int (nI (7 * j))), none, none, none] [] M := by
  obtain ⟨k, M1, v, N, hk, h1, h2, h3, h4, h5⟩ := p_hits hf h (xs (7 * j + 1))
  obtain ⟨od9, ho9⟩ := h5.mr
  refine e_aload_1 dL_law_1303 rfl ?_
  refine e_aload_0 dL_law_1304 rfl ?_
  refine e_iload_5 dL_law_1305 rfl ?_
  refine e_iconst (v := nI 1) dL_law_1307 rfl ic_1 ?_
  refine e_iadd dL_law_1308 rfl ?_
  refine e_topi (nI (7 * j + 1)) (nI_add _ _) ?_
  refine e_sld dL_law_1309 rfl rfl (by omega) hL ?_
  refine e_aload_3 dL_law_1310 rfl ?_
  refine e_callW dL_law_1311 rfl csL_187 h1 rfl rfl ⟨Nat.le_of_ble_eq_true rfl, Nat.le_of_ble_eq_true rfl⟩ ⟨show u + 1 ≤ 628212 by omega, show w + 6 * 1 ≤ 7131595 by omega⟩ rfl rfl (Nat.le_of_ble_eq_true rfl) ?_
  refine e_istore_6 dL_law_1314 rfl (Nat.le_of_ble_eq_true rfl) rfl ?_
  refine e_aload_2 dL_law_1316 rfl ?_
  refine e_aload_0 dL_law_1317 rfl ?_
  refine e_iload_5 dL_law_1318 rfl ?_
  refine e_iconst (v := nI 1) dL_law_1320 rfl ic_1 ?_
  refine e_iadd dL_law_1321 rfl ?_
  refine e_topi (nI (7 * j + 1)) (nI_add _ _) ?_
  refine e_sld dL_law_1322 rfl rfl (by omega) hL ?_
  refine e_callV dL_law_1323 rfl csL_189 h3 rfl rfl ps_64 (by decide) (by decide) ⟨Nat.le_of_ble_eq_true rfl, Nat.le_of_ble_eq_true rfl⟩ ⟨show _ ≤ 628212 by omega, show _ ≤ 7131595 by omega⟩ rfl rfl (Nat.le_of_ble_eq_true rfl) ?_
  refine e_istore_7 dL_law_1326 rfl (Nat.le_of_ble_eq_true rfl) rfl ?_
  refine e_aload_2 dL_law_1328 rfl ?_
  refine e_callV dL_law_1329 rfl csL_131 (m_thrown hf ho9) rfl rfl ps_64 (by decide) (by decide) ⟨Nat.le_of_ble_eq_true rfl, Nat.le_of_ble_eq_true rfl⟩ ⟨show _ ≤ 628212 by omega, show _ ≤ 7131595 by omega⟩ rfl rfl (Nat.le_of_ble_eq_true rfl) ?_
  refine e_topi (nI k) h4 ?_
  refine e_iload_6 dL_law_1332 rfl ?_
  refine e_nc_eq_t (tgt := 1339) dL_law_1334 (by decide) (by omega) (by omega) rfl ?_
  refine e_iload_6 dL_law_1339 rfl ?_
  rcases Nat.eq_zero_or_pos k with hk0 | hk0
  · subst hk0
    have h2 := h2 rfl
    refine e_if_ne_f dL_law_1341 rfl ⟨1356, by decide⟩ (by decide) ?_
    refine e_aload_3 dL_law_1344 rfl ?_
    refine e_iconst (v := nI 0) dL_law_1345 rfl ic_0 ?_
    refine e_lald dL_law_1346 rfl ps_84 (by decide) rfl (by omega) ?_
    refine e_iload_7 dL_law_1347 rfl ?_
    refine e_i2l dL_law_1349 rfl ?_
    refine e_lcmp dL_law_1350 rfl ?_
    refine e_topi 0 (by rw [h2]; exact lg_cmp_self _) ?_
    refine e_if_eq_t (tgt := 1356) dL_law_1351 (by decide) rfl ?_
    refine e_goto (tgt := 2200) dL_law_1356 (by decide) ?_
    refine e_weak (lo' := [some (.ref 1000), some (.ref 0), some (.ref 64), some (.ref 84), some (.ref 85), some (.int (nI (7 * j))), none, none, none]) (weak_c (weak_c (weak_c (weak_c (weak_c (weak_c (weak_n (weak_n (weak_n weak_nil))))))))) ?_
    refine e_wid (show _ ≤ u + 6 by omega) (show _ ≤ w + 36 by omega) ?_
    exact kk N h5
  · refine e_if_ne_t (tgt := 1356) dL_law_1341 (by decide) (nI_ne0 hk0 (by omega)) ?_
    refine e_goto (tgt := 2200) dL_law_1356 (by decide) ?_
    refine e_weak (lo' := [some (.ref 1000), some (.ref 0), some (.ref 64), some (.ref 84), some (.ref 85), some (.int (nI (7 * j))), none, none, none]) (weak_c (weak_c (weak_c (weak_c (weak_c (weak_c (weak_n (weak_n (weak_n weak_nil))))))))) ?_
    refine e_wid (show _ ≤ u + 6 by omega) (show _ ≤ w + 36 by omega) ?_
    exact kk N h5
theorem lc_busyDays {l : Launch} (hf : l.stackTraces = false) {nm : String} {hl : List (Nat × Nat × Nat × Nat)} {b Ln : Nat} {xs : Nat → Int32} (hL : Ln ≤ 3584) {M : pmM} (h : RLX M) {j u w : Nat} (hi : 7 * j + 7 ≤ Ln) (hu : u + 6 ≤ 628212) (hw : w + 36 ≤ 7131595) (kk : ∀ N, RLX N → Ev l (kLaw nm hl) (gS b Ln xs) room_1 86 (u + 6) (w + 36) 2200 [some (.ref 1000), some (.ref 0), some (.ref 64), some (.ref 84), some (.ref 85), some (.int (nI (7 * j))), none, none, none] [] N) : Ev l (kLaw nm hl) (gS b Ln xs) room_1 86 u w 1359 [some (.ref 1000), some (.ref 0), some (.ref 64), some (.ref 84), some (.ref 85), some (.int (nI (7 * j))), none, none, none] [] M := by
  obtain ⟨k, M1, v, N, hk, h1, h2, h3, h4, h5⟩ := p_busyDays hf h (xs (7 * j + 1))
  obtain ⟨od9, ho9⟩ := h5.mr
  refine e_aload_1 dL_law_1359 rfl ?_
  refine e_aload_0 dL_law_1360 rfl ?_
  refine e_iload_5 dL_law_1361 rfl ?_
  refine e_iconst (v := nI 1) dL_law_1363 rfl ic_1 ?_
  refine e_iadd dL_law_1364 rfl ?_
  refine e_topi (nI (7 * j + 1)) (nI_add _ _) ?_
  refine e_sld dL_law_1365 rfl rfl (by omega) hL ?_
  refine e_aload_3 dL_law_1366 rfl ?_
  refine e_callW dL_law_1367 rfl csL_190 h1 rfl rfl ⟨Nat.le_of_ble_eq_true rfl, Nat.le_of_ble_eq_true rfl⟩ ⟨show u + 1 ≤ 628212 by omega, show w + 6 * 1 ≤ 7131595 by omega⟩ rfl rfl (Nat.le_of_ble_eq_true rfl) ?_
  refine e_istore_6 dL_law_1370 rfl (Nat.le_of_ble_eq_true rfl) rfl ?_
  refine e_aload_2 dL_law_1372 rfl ?_
  refine e_aload_0 dL_law_1373 rfl ?_
  refine e_iload_5 dL_law_1374 rfl ?_
  refine e_iconst (v := nI 1) dL_law_1376 rfl ic_1 ?_
  refine e_iadd dL_law_1377 rfl ?_
  refine e_topi (nI (7 * j + 1)) (nI_add _ _) ?_
  refine e_sld dL_law_1378 rfl rfl (by omega) hL ?_
  refine e_callV dL_law_1379 rfl csL_192 h3 rfl rfl ps_64 (by decide) (by decide) ⟨Nat.le_of_ble_eq_true rfl, Nat.le_of_ble_eq_true rfl⟩ ⟨show _ ≤ 628212 by omega, show _ ≤ 7131595 by omega⟩ rfl rfl (Nat.le_of_ble_eq_true rfl) ?_
  refine e_istore_7 dL_law_1382 rfl (Nat.le_of_ble_eq_true rfl) rfl ?_
  refine e_aload_2 dL_law_1384 rfl ?_
  refine e_callV dL_law_1385 rfl csL_131 (m_thrown hf ho9) rfl rfl ps_64 (by decide) (by decide) ⟨Nat.le_of_ble_eq_true rfl, Nat.le_of_ble_eq_true rfl⟩ ⟨show _ ≤ 628212 by omega, show _ ≤ 7131595 by omega⟩ rfl rfl (Nat.le_of_ble_eq_true rfl) ?_
  refine e_topi (nI k) h4 ?_
  refine e_iload_6 dL_law_1388 rfl ?_
  refine e_nc_eq_t (tgt := 1395) dL_law_1390 (by decide) (by omega) (by omega) rfl ?_
  refine e_iload_6 dL_law_1395 rfl ?_
  rcases Nat.eq_zero_or_pos k with hk0 | hk0
  · subst hk0
    have h2 := h2 rfl
    refine e_if_ne_f dL_law_1397 rfl ⟨1412, by decide⟩ (by decide) ?_
    refine e_aload_3 dL_law_1400 rfl ?_
    refine e_iconst (v := nI 0) dL_law_1401 rfl ic_0 ?_
    refine e_lald dL_law_1402 rfl ps_84 (by decide) rfl (by omega) ?_
    refine e_iload_7 dL_law_1403 rfl ?_
    refine e_i2l dL_law_1405 rfl ?_
    refine e_lcmp dL_law_1406 rfl ?_
    refine e_topi 0 (by rw [h2]; exact lg_cmp_self _) ?_
    refine e_if_eq_t (tgt := 1412) dL_law_1407 (by decide) rfl ?_
    refine e_goto (tgt := 2200) dL_law_1412 (by decide) ?_
    refine e_weak (lo' := [some (.ref 1000), some (.ref 0), some (.ref 64), some (.ref 84), some (.ref 85), some (.int (nI (7 * j))), none, none, none]) (weak_c (weak_c (weak_c (weak_c (weak_c (weak_c (weak_n (weak_n (weak_n weak_nil))))))))) ?_
    refine e_wid (show _ ≤ u + 6 by omega) (show _ ≤ w + 36 by omega) ?_
    exact kk N h5
  · refine e_if_ne_t (tgt := 1412) dL_law_1397 (by decide) (nI_ne0 hk0 (by omega)) ?_
    refine e_goto (tgt := 2200) dL_law_1412 (by decide) ?_
    refine e_weak (lo' := [some (.ref 1000), some (.ref 0), some (.ref 64), some (.ref 84), some (.ref 85), some (.int (nI (7 * j))), none, none, none]) (weak_c (weak_c (weak_c (weak_c (weak_c (weak_c (weak_n (weak_n (weak_n weak_nil))))))))) ?_
    refine e_wid (show _ ≤ u + 6 by omega) (show _ ≤ w + 36 by omega) ?_
    exact kk N h5
theorem lc_idleDays {l : Launch} (hf : l.stackTraces = false) {nm : String} {hl : List (Nat × Nat × Nat × Nat)} {b Ln : Nat} {xs : Nat → Int32} (hL : Ln ≤ 3584) {M : pmM} (h : RLX M) {j u w : Nat} (hi : 7 * j + 7 ≤ Ln) (hu : u + 6 ≤ 628212) (hw : w + 36 ≤ 7131595) (kk : ∀ N, RLX N → Ev l (kLaw nm hl) (gS b Ln xs) room_1 86 (u + 6) (w + 36) 2200 [some (.ref 1000), some (.ref 0), some (.ref 64), some (.ref 84), some (.ref 85), some (.int (nI (7 * j))), none, none, none] [] N) : Ev l (kLaw nm hl) (gS b Ln xs) room_1 86 u w 1415 [some (.ref 1000), some (.ref 0), some (.ref 64), some (.ref 84), some (.ref 85), some (.int (nI (7 * j))), none, none, none] [] M := by
  obtain ⟨k, M1, v, N, hk, h1, h2, h3, h4, h5⟩ := p_idleDays hf h (xs (7 * j + 1))
  obtain ⟨od9, ho9⟩ := h5.mr
  refine e_aload_1 dL_law_1415 rfl ?_
  refine e_aload_0 dL_law_1416 rfl ?_
  refine e_iload_5 dL_law_1417 rfl ?_
  refine e_iconst (v := nI 1) dL_law_1419 rfl ic_1 ?_
  refine e_iadd dL_law_1420 rfl ?_
  refine e_topi (nI (7 * j + 1)) (nI_add _ _) ?_
  refine e_sld dL_law_1421 rfl rfl (by omega) hL ?_
  refine e_aload_3 dL_law_1422 rfl ?_
  refine e_callW dL_law_1423 rfl csL_193 h1 rfl rfl ⟨Nat.le_of_ble_eq_true rfl, Nat.le_of_ble_eq_true rfl⟩ ⟨show u + 1 ≤ 628212 by omega, show w + 6 * 1 ≤ 7131595 by omega⟩ rfl rfl (Nat.le_of_ble_eq_true rfl) ?_
  refine e_istore_6 dL_law_1426 rfl (Nat.le_of_ble_eq_true rfl) rfl ?_
  refine e_aload_2 dL_law_1428 rfl ?_
  refine e_aload_0 dL_law_1429 rfl ?_
  refine e_iload_5 dL_law_1430 rfl ?_
  refine e_iconst (v := nI 1) dL_law_1432 rfl ic_1 ?_
  refine e_iadd dL_law_1433 rfl ?_
  refine e_topi (nI (7 * j + 1)) (nI_add _ _) ?_
  refine e_sld dL_law_1434 rfl rfl (by omega) hL ?_
  refine e_callV dL_law_1435 rfl csL_195 h3 rfl rfl ps_64 (by decide) (by decide) ⟨Nat.le_of_ble_eq_true rfl, Nat.le_of_ble_eq_true rfl⟩ ⟨show _ ≤ 628212 by omega, show _ ≤ 7131595 by omega⟩ rfl rfl (Nat.le_of_ble_eq_true rfl) ?_
  refine e_istore_7 dL_law_1438 rfl (Nat.le_of_ble_eq_true rfl) rfl ?_
  refine e_aload_2 dL_law_1440 rfl ?_
  refine e_callV dL_law_1441 rfl csL_131 (m_thrown hf ho9) rfl rfl ps_64 (by decide) (by decide) ⟨Nat.le_of_ble_eq_true rfl, Nat.le_of_ble_eq_true rfl⟩ ⟨show _ ≤ 628212 by omega, show _ ≤ 7131595 by omega⟩ rfl rfl (Nat.le_of_ble_eq_true rfl) ?_
  refine e_topi (nI k) h4 ?_
  refine e_iload_6 dL_law_1444 rfl ?_
  refine e_nc_eq_t (tgt := 1451) dL_law_1446 (by decide) (by omega) (by omega) rfl ?_
  refine e_iload_6 dL_law_1451 rfl ?_
  rcases Nat.eq_zero_or_pos k with hk0 | hk0
  · subst hk0
    have h2 := h2 rfl
    refine e_if_ne_f dL_law_1453 rfl ⟨1468, by decide⟩ (by decide) ?_
    refine e_aload_3 dL_law_1456 rfl ?_
    refine e_iconst (v := nI 0) dL_law_1457 rfl ic_0 ?_
    refine e_lald dL_law_1458 rfl ps_84 (by decide) rfl (by omega) ?_
    refine e_iload_7 dL_law_1459 rfl ?_
    refine e_i2l dL_law_1461 rfl ?_
    refine e_lcmp dL_law_1462 rfl ?_
    refine e_topi 0 (by rw [h2]; exact lg_cmp_self _) ?_
    refine e_if_eq_t (tgt := 1468) dL_law_1463 (by decide) rfl ?_
    refine e_goto (tgt := 2200) dL_law_1468 (by decide) ?_
    refine e_weak (lo' := [some (.ref 1000), some (.ref 0), some (.ref 64), some (.ref 84), some (.ref 85), some (.int (nI (7 * j))), none, none, none]) (weak_c (weak_c (weak_c (weak_c (weak_c (weak_c (weak_n (weak_n (weak_n weak_nil))))))))) ?_
    refine e_wid (show _ ≤ u + 6 by omega) (show _ ≤ w + 36 by omega) ?_
    exact kk N h5
  · refine e_if_ne_t (tgt := 1468) dL_law_1453 (by decide) (nI_ne0 hk0 (by omega)) ?_
    refine e_goto (tgt := 2200) dL_law_1468 (by decide) ?_
    refine e_weak (lo' := [some (.ref 1000), some (.ref 0), some (.ref 64), some (.ref 84), some (.ref 85), some (.int (nI (7 * j))), none, none, none]) (weak_c (weak_c (weak_c (weak_c (weak_c (weak_c (weak_n (weak_n (weak_n weak_nil))))))))) ?_
    refine e_wid (show _ ≤ u + 6 by omega) (show _ ≤ w + 36 by omega) ?_
    exact kk N h5
theorem lc_pass {l : Launch} (hf : l.stackTraces = false) {nm : String} {hl : List (Nat × Nat × Nat × Nat)} {b Ln : Nat} {xs : Nat → Int32} (hL : Ln ≤ 3584) {M : pmM} (h : RLX M) {j u w : Nat} (hi : 7 * j + 7 ≤ Ln) (hu : u + 6 ≤ 628212) (hw : w + 36 ≤ 7131595) (kk : ∀ N, RLX N → Ev l (kLaw nm hl) (gS b Ln xs) room_1 86 (u + 6) (w + 36) 2200 [some (.ref 1000), some (.ref 0), some (.ref 64), some (.ref 84), some (.ref 85), some (.int (nI (7 * j))), none, none, none] [] N) : Ev l (kLaw nm hl) (gS b Ln xs) room_1 86 u w 1471 [some (.ref 1000), some (.ref 0), some (.ref 64), some (.ref 84), some (.ref 85), some (.int (nI (7 * j))), none, none, none] [] M := by
  obtain ⟨k, M1, v, N, hk, h1, h2, h3, h4, h5⟩ := p_pass hf h (xs (7 * j + 1))
  obtain ⟨od9, ho9⟩ := h5.mr
  refine e_aload_1 dL_law_1471 rfl ?_
  refine e_aload_0 dL_law_1472 rfl ?_
  refine e_iload_5 dL_law_1473 rfl ?_
  refine e_iconst (v := nI 1) dL_law_1475 rfl ic_1 ?_
  refine e_iadd dL_law_1476 rfl ?_
  refine e_topi (nI (7 * j + 1)) (nI_add _ _) ?_
  refine e_sld dL_law_1477 rfl rfl (by omega) hL ?_
  refine e_aload_3 dL_law_1478 rfl ?_
  refine e_callW dL_law_1479 rfl csL_196 h1 rfl rfl ⟨Nat.le_of_ble_eq_true rfl, Nat.le_of_ble_eq_true rfl⟩ ⟨show u + 2 ≤ 628212 by omega, show w + 6 * 2 ≤ 7131595 by omega⟩ rfl rfl (Nat.le_of_ble_eq_true rfl) ?_
  refine e_istore_6 dL_law_1482 rfl (Nat.le_of_ble_eq_true rfl) rfl ?_
  refine e_aload_2 dL_law_1484 rfl ?_
  refine e_aload_0 dL_law_1485 rfl ?_
  refine e_iload_5 dL_law_1486 rfl ?_
  refine e_iconst (v := nI 1) dL_law_1488 rfl ic_1 ?_
  refine e_iadd dL_law_1489 rfl ?_
  refine e_topi (nI (7 * j + 1)) (nI_add _ _) ?_
  refine e_sld dL_law_1490 rfl rfl (by omega) hL ?_
  refine e_callV dL_law_1491 rfl csL_198 h3 rfl rfl ps_64 (by decide) (by decide) ⟨Nat.le_of_ble_eq_true rfl, Nat.le_of_ble_eq_true rfl⟩ ⟨show _ ≤ 628212 by omega, show _ ≤ 7131595 by omega⟩ rfl rfl (Nat.le_of_ble_eq_true rfl) ?_
  refine e_istore_7 dL_law_1494 rfl (Nat.le_of_ble_eq_true rfl) rfl ?_
  refine e_aload_2 dL_law_1496 rfl ?_
  refine e_callV dL_law_1497 rfl csL_131 (m_thrown hf ho9) rfl rfl ps_64 (by decide) (by decide) ⟨Nat.le_of_ble_eq_true rfl, Nat.le_of_ble_eq_true rfl⟩ ⟨show _ ≤ 628212 by omega, show _ ≤ 7131595 by omega⟩ rfl rfl (Nat.le_of_ble_eq_true rfl) ?_
  refine e_topi (nI k) h4 ?_
  refine e_iload_6 dL_law_1500 rfl ?_
  refine e_nc_eq_t (tgt := 1507) dL_law_1502 (by decide) (by omega) (by omega) rfl ?_
  refine e_iload_6 dL_law_1507 rfl ?_
  rcases Nat.eq_zero_or_pos k with hk0 | hk0
  · subst hk0
    have h2 := h2 rfl
    refine e_if_ne_f dL_law_1509 rfl ⟨1524, by decide⟩ (by decide) ?_
    refine e_aload_3 dL_law_1512 rfl ?_
    refine e_iconst (v := nI 0) dL_law_1513 rfl ic_0 ?_
    refine e_lald dL_law_1514 rfl ps_84 (by decide) rfl (by omega) ?_
    refine e_iload_7 dL_law_1515 rfl ?_
    refine e_i2l dL_law_1517 rfl ?_
    refine e_lcmp dL_law_1518 rfl ?_
    refine e_topi 0 (by rw [h2]; exact lg_cmp_self _) ?_
    refine e_if_eq_t (tgt := 1524) dL_law_1519 (by decide) rfl ?_
    refine e_goto (tgt := 2200) dL_law_1524 (by decide) ?_
    refine e_weak (lo' := [some (.ref 1000), some (.ref 0), some (.ref 64), some (.ref 84), some (.ref 85), some (.int (nI (7 * j))), none, none, none]) (weak_c (weak_c (weak_c (weak_c (weak_c (weak_c (weak_n (weak_n (weak_n weak_nil))))))))) ?_
    refine e_wid (show _ ≤ u + 6 by omega) (show _ ≤ w + 36 by omega) ?_
    exact kk N h5
  · refine e_if_ne_t (tgt := 1524) dL_law_1509 (by decide) (nI_ne0 hk0 (by omega)) ?_
    refine e_goto (tgt := 2200) dL_law_1524 (by decide) ?_
    refine e_weak (lo' := [some (.ref 1000), some (.ref 0), some (.ref 64), some (.ref 84), some (.ref 85), some (.int (nI (7 * j))), none, none, none]) (weak_c (weak_c (weak_c (weak_c (weak_c (weak_c (weak_n (weak_n (weak_n weak_nil))))))))) ?_
    refine e_wid (show _ ≤ u + 6 by omega) (show _ ≤ w + 36 by omega) ?_
    exact kk N h5
theorem lc_day {l : Launch} (hf : l.stackTraces = false) {nm : String} {hl : List (Nat × Nat × Nat × Nat)} {b Ln : Nat} {xs : Nat → Int32} (hL : Ln ≤ 3584) {M : pmM} (h : RLX M) {j u w : Nat} (hi : 7 * j + 7 ≤ Ln) (hu : u + 6 ≤ 628212) (hw : w + 36 ≤ 7131595) (kk : ∀ N, RLX N → Ev l (kLaw nm hl) (gS b Ln xs) room_1 86 (u + 6) (w + 36) 2200 [some (.ref 1000), some (.ref 0), some (.ref 64), some (.ref 84), some (.ref 85), some (.int (nI (7 * j))), none, none, none] [] N) : Ev l (kLaw nm hl) (gS b Ln xs) room_1 86 u w 1527 [some (.ref 1000), some (.ref 0), some (.ref 64), some (.ref 84), some (.ref 85), some (.int (nI (7 * j))), none, none, none] [] M := by
  obtain ⟨M1, v, N, h1, h2, h3, h5⟩ := p_day hf h
  refine e_aload_1 dL_law_1527 rfl ?_
  refine e_callV dL_law_1528 rfl csL_199 h1 rfl rfl ps_0 (by decide) (by decide) ⟨Nat.le_of_ble_eq_true rfl, Nat.le_of_ble_eq_true rfl⟩ ⟨show _ ≤ 628212 by omega, show _ ≤ 7131595 by omega⟩ rfl rfl (Nat.le_of_ble_eq_true rfl) ?_
  refine e_aload_2 dL_law_1531 rfl ?_
  refine e_callV dL_law_1532 rfl csL_202 h2 rfl rfl ps_64 (by decide) (by decide) ⟨Nat.le_of_ble_eq_true rfl, Nat.le_of_ble_eq_true rfl⟩ ⟨show _ ≤ 628212 by omega, show _ ≤ 7131595 by omega⟩ rfl rfl (Nat.le_of_ble_eq_true rfl) ?_
  refine e_ic_eq_t (tgt := 2200) dL_law_1535 (by decide) rfl ?_
  refine e_weak (lo' := [some (.ref 1000), some (.ref 0), some (.ref 64), some (.ref 84), some (.ref 85), some (.int (nI (7 * j))), none, none, none]) (weak_c (weak_c (weak_c (weak_c (weak_c (weak_c (weak_n (weak_n (weak_n weak_nil))))))))) ?_
  refine e_wid (show _ ≤ u + 6 by omega) (show _ ≤ w + 36 by omega) ?_
  exact kk N h5
theorem lc_matched {l : Launch} (hf : l.stackTraces = false) {nm : String} {hl : List (Nat × Nat × Nat × Nat)} {b Ln : Nat} {xs : Nat → Int32} (hL : Ln ≤ 3584) {M : pmM} (h : RLX M) {j u w : Nat} (hi : 7 * j + 7 ≤ Ln) (hu : u + 6 ≤ 628212) (hw : w + 36 ≤ 7131595) (kk : ∀ N, RLX N → Ev l (kLaw nm hl) (gS b Ln xs) room_1 86 (u + 6) (w + 36) 2200 [some (.ref 1000), some (.ref 0), some (.ref 64), some (.ref 84), some (.ref 85), some (.int (nI (7 * j))), none, none, none] [] N) : Ev l (kLaw nm hl) (gS b Ln xs) room_1 86 u w 1540 [some (.ref 1000), some (.ref 0), some (.ref 64), some (.ref 84), some (.ref 85), some (.int (nI (7 * j))), none, none, none] [] M := by
  obtain ⟨k, M1, v, N, hk, h1, h2, h3, h4, h5⟩ := p_matched hf h (xs (7 * j + 1))
  obtain ⟨od9, ho9⟩ := h5.mr
  refine e_aload_1 dL_law_1540 rfl ?_
  refine e_aload_0 dL_law_1541 rfl ?_
  refine e_iload_5 dL_law_1542 rfl ?_
  refine e_iconst (v := nI 1) dL_law_1544 rfl ic_1 ?_
  refine e_iadd dL_law_1545 rfl ?_
  refine e_topi (nI (7 * j + 1)) (nI_add _ _) ?_
  refine e_sld dL_law_1546 rfl rfl (by omega) hL ?_
  refine e_aload_3 dL_law_1547 rfl ?_
  refine e_callW dL_law_1548 rfl csL_203 h1 rfl rfl ⟨Nat.le_of_ble_eq_true rfl, Nat.le_of_ble_eq_true rfl⟩ ⟨show u + 1 ≤ 628212 by omega, show w + 6 * 1 ≤ 7131595 by omega⟩ rfl rfl (Nat.le_of_ble_eq_true rfl) ?_
  refine e_istore_6 dL_law_1551 rfl (Nat.le_of_ble_eq_true rfl) rfl ?_
  refine e_aload_2 dL_law_1553 rfl ?_
  refine e_aload_0 dL_law_1554 rfl ?_
  refine e_iload_5 dL_law_1555 rfl ?_
  refine e_iconst (v := nI 1) dL_law_1557 rfl ic_1 ?_
  refine e_iadd dL_law_1558 rfl ?_
  refine e_topi (nI (7 * j + 1)) (nI_add _ _) ?_
  refine e_sld dL_law_1559 rfl rfl (by omega) hL ?_
  refine e_callV dL_law_1560 rfl csL_205 h3 rfl rfl ps_64 (by decide) (by decide) ⟨Nat.le_of_ble_eq_true rfl, Nat.le_of_ble_eq_true rfl⟩ ⟨show _ ≤ 628212 by omega, show _ ≤ 7131595 by omega⟩ rfl rfl (Nat.le_of_ble_eq_true rfl) ?_
  refine e_istore_7 dL_law_1563 rfl (Nat.le_of_ble_eq_true rfl) rfl ?_
  refine e_aload_2 dL_law_1565 rfl ?_
  refine e_callV dL_law_1566 rfl csL_131 (m_thrown hf ho9) rfl rfl ps_64 (by decide) (by decide) ⟨Nat.le_of_ble_eq_true rfl, Nat.le_of_ble_eq_true rfl⟩ ⟨show _ ≤ 628212 by omega, show _ ≤ 7131595 by omega⟩ rfl rfl (Nat.le_of_ble_eq_true rfl) ?_
  refine e_topi (nI k) h4 ?_
  refine e_iload_6 dL_law_1569 rfl ?_
  refine e_nc_eq_t (tgt := 1576) dL_law_1571 (by decide) (by omega) (by omega) rfl ?_
  refine e_iload_6 dL_law_1576 rfl ?_
  rcases Nat.eq_zero_or_pos k with hk0 | hk0
  · subst hk0
    have h2 := h2 rfl
    refine e_if_ne_f dL_law_1578 rfl ⟨1593, by decide⟩ (by decide) ?_
    refine e_aload_3 dL_law_1581 rfl ?_
    refine e_iconst (v := nI 0) dL_law_1582 rfl ic_0 ?_
    refine e_lald dL_law_1583 rfl ps_84 (by decide) rfl (by omega) ?_
    refine e_iload_7 dL_law_1584 rfl ?_
    refine e_i2l dL_law_1586 rfl ?_
    refine e_lcmp dL_law_1587 rfl ?_
    refine e_topi 0 (by rw [h2]; exact lg_cmp_self _) ?_
    refine e_if_eq_t (tgt := 1593) dL_law_1588 (by decide) rfl ?_
    refine e_goto (tgt := 2200) dL_law_1593 (by decide) ?_
    refine e_weak (lo' := [some (.ref 1000), some (.ref 0), some (.ref 64), some (.ref 84), some (.ref 85), some (.int (nI (7 * j))), none, none, none]) (weak_c (weak_c (weak_c (weak_c (weak_c (weak_c (weak_n (weak_n (weak_n weak_nil))))))))) ?_
    refine e_wid (show _ ≤ u + 6 by omega) (show _ ≤ w + 36 by omega) ?_
    exact kk N h5
  · refine e_if_ne_t (tgt := 1593) dL_law_1578 (by decide) (nI_ne0 hk0 (by omega)) ?_
    refine e_goto (tgt := 2200) dL_law_1593 (by decide) ?_
    refine e_weak (lo' := [some (.ref 1000), some (.ref 0), some (.ref 64), some (.ref 84), some (.ref 85), some (.int (nI (7 * j))), none, none, none]) (weak_c (weak_c (weak_c (weak_c (weak_c (weak_c (weak_n (weak_n (weak_n weak_nil))))))))) ?_
    refine e_wid (show _ ≤ u + 6 by omega) (show _ ≤ w + 36 by omega) ?_
    exact kk N h5
theorem lc_decided {l : Launch} (hf : l.stackTraces = false) {nm : String} {hl : List (Nat × Nat × Nat × Nat)} {b Ln : Nat} {xs : Nat → Int32} (hL : Ln ≤ 3584) {M : pmM} (h : RLX M) {j u w : Nat} (hi : 7 * j + 7 ≤ Ln) (hu : u + 6 ≤ 628212) (hw : w + 36 ≤ 7131595) (kk : ∀ N, RLX N → Ev l (kLaw nm hl) (gS b Ln xs) room_1 86 (u + 6) (w + 36) 2200 [some (.ref 1000), some (.ref 0), some (.ref 64), some (.ref 84), some (.ref 85), some (.int (nI (7 * j))), none, none, none] [] N) : Ev l (kLaw nm hl) (gS b Ln xs) room_1 86 u w 1596 [some (.ref 1000), some (.ref 0), some (.ref 64), some (.ref 84), some (.ref 85), some (.int (nI (7 * j))), none, none, none] [] M := by
  obtain ⟨k, M1, v, N, hk, h1, h2, h3, h4, h5⟩ := p_decided hf h (xs (7 * j + 1))
  obtain ⟨od9, ho9⟩ := h5.mr
  refine e_aload_1 dL_law_1596 rfl ?_
  refine e_aload_0 dL_law_1597 rfl ?_
  refine e_iload_5 dL_law_1598 rfl ?_
  refine e_iconst (v := nI 1) dL_law_1600 rfl ic_1 ?_
  refine e_iadd dL_law_1601 rfl ?_
  refine e_topi (nI (7 * j + 1)) (nI_add _ _) ?_
  refine e_sld dL_law_1602 rfl rfl (by omega) hL ?_
  refine e_aload_3 dL_law_1603 rfl ?_
  refine e_callW dL_law_1604 rfl csL_206 h1 rfl rfl ⟨Nat.le_of_ble_eq_true rfl, Nat.le_of_ble_eq_true rfl⟩ ⟨show u + 1 ≤ 628212 by omega, show w + 6 * 1 ≤ 7131595 by omega⟩ rfl rfl (Nat.le_of_ble_eq_true rfl) ?_
  refine e_istore_6 dL_law_1607 rfl (Nat.le_of_ble_eq_true rfl) rfl ?_
  refine e_aload_2 dL_law_1609 rfl ?_
  refine e_aload_0 dL_law_1610 rfl ?_
  refine e_iload_5 dL_law_1611 rfl ?_
  refine e_iconst (v := nI 1) dL_law_1613 rfl ic_1 ?_
  refine e_iadd dL_law_1614 rfl ?_
  refine e_topi (nI (7 * j + 1)) (nI_add _ _) ?_
  refine e_sld dL_law_1615 rfl rfl (by omega) hL ?_
  refine e_callV dL_law_1616 rfl csL_208 h3 rfl rfl ps_64 (by decide) (by decide) ⟨Nat.le_of_ble_eq_true rfl, Nat.le_of_ble_eq_true rfl⟩ ⟨show _ ≤ 628212 by omega, show _ ≤ 7131595 by omega⟩ rfl rfl (Nat.le_of_ble_eq_true rfl) ?_
  refine e_istore_7 dL_law_1619 rfl (Nat.le_of_ble_eq_true rfl) rfl ?_
  refine e_aload_2 dL_law_1621 rfl ?_
  refine e_callV dL_law_1622 rfl csL_131 (m_thrown hf ho9) rfl rfl ps_64 (by decide) (by decide) ⟨Nat.le_of_ble_eq_true rfl, Nat.le_of_ble_eq_true rfl⟩ ⟨show _ ≤ 628212 by omega, show _ ≤ 7131595 by omega⟩ rfl rfl (Nat.le_of_ble_eq_true rfl) ?_
  refine e_topi (nI k) h4 ?_
  refine e_iload_6 dL_law_1625 rfl ?_
  refine e_nc_eq_t (tgt := 1632) dL_law_1627 (by decide) (by omega) (by omega) rfl ?_
  refine e_iload_6 dL_law_1632 rfl ?_
  rcases Nat.eq_zero_or_pos k with hk0 | hk0
  · subst hk0
    have h2 := h2 rfl
    refine e_if_ne_f dL_law_1634 rfl ⟨1649, by decide⟩ (by decide) ?_
    refine e_aload_3 dL_law_1637 rfl ?_
    refine e_iconst (v := nI 0) dL_law_1638 rfl ic_0 ?_
    refine e_lald dL_law_1639 rfl ps_84 (by decide) rfl (by omega) ?_
    refine e_iload_7 dL_law_1640 rfl ?_
    refine e_i2l dL_law_1642 rfl ?_
    refine e_lcmp dL_law_1643 rfl ?_
    refine e_topi 0 (by rw [h2]; exact lg_cmp_self _) ?_
    refine e_if_eq_t (tgt := 1649) dL_law_1644 (by decide) rfl ?_
    refine e_goto (tgt := 2200) dL_law_1649 (by decide) ?_
    refine e_weak (lo' := [some (.ref 1000), some (.ref 0), some (.ref 64), some (.ref 84), some (.ref 85), some (.int (nI (7 * j))), none, none, none]) (weak_c (weak_c (weak_c (weak_c (weak_c (weak_c (weak_n (weak_n (weak_n weak_nil))))))))) ?_
    refine e_wid (show _ ≤ u + 6 by omega) (show _ ≤ w + 36 by omega) ?_
    exact kk N h5
  · refine e_if_ne_t (tgt := 1649) dL_law_1634 (by decide) (nI_ne0 hk0 (by omega)) ?_
    refine e_goto (tgt := 2200) dL_law_1649 (by decide) ?_
    refine e_weak (lo' := [some (.ref 1000), some (.ref 0), some (.ref 64), some (.ref 84), some (.ref 85), some (.int (nI (7 * j))), none, none, none]) (weak_c (weak_c (weak_c (weak_c (weak_c (weak_c (weak_n (weak_n (weak_n weak_nil))))))))) ?_
    refine e_wid (show _ ≤ u + 6 by omega) (show _ ≤ w + 36 by omega) ?_
    exact kk N h5
theorem lc_decidedBySamples {l : Launch} (hf : l.stackTraces = false) {nm : String} {hl : List (Nat × Nat × Nat × Nat)} {b Ln : Nat} {xs : Nat → Int32} (hL : Ln ≤ 3584) {M : pmM} (h : RLX M) {j u w : Nat} (hi : 7 * j + 7 ≤ Ln) (hu : u + 6 ≤ 628212) (hw : w + 36 ≤ 7131595) (kk : ∀ N, RLX N → Ev l (kLaw nm hl) (gS b Ln xs) room_1 86 (u + 6) (w + 36) 2200 [some (.ref 1000), some (.ref 0), some (.ref 64), some (.ref 84), some (.ref 85), some (.int (nI (7 * j))), none, none, none] [] N) : Ev l (kLaw nm hl) (gS b Ln xs) room_1 86 u w 1652 [some (.ref 1000), some (.ref 0), some (.ref 64), some (.ref 84), some (.ref 85), some (.int (nI (7 * j))), none, none, none] [] M := by
  obtain ⟨k, M1, v, N, hk, h1, h2, h3, h4, h5⟩ := p_decidedBySamples hf h (xs (7 * j + 1))
  obtain ⟨od9, ho9⟩ := h5.mr
  refine e_aload_1 dL_law_1652 rfl ?_
  refine e_aload_0 dL_law_1653 rfl ?_
  refine e_iload_5 dL_law_1654 rfl ?_
  refine e_iconst (v := nI 1) dL_law_1656 rfl ic_1 ?_
  refine e_iadd dL_law_1657 rfl ?_
  refine e_topi (nI (7 * j + 1)) (nI_add _ _) ?_
  refine e_sld dL_law_1658 rfl rfl (by omega) hL ?_
  refine e_aload_3 dL_law_1659 rfl ?_
  refine e_callW dL_law_1660 rfl csL_209 h1 rfl rfl ⟨Nat.le_of_ble_eq_true rfl, Nat.le_of_ble_eq_true rfl⟩ ⟨show u + 1 ≤ 628212 by omega, show w + 6 * 1 ≤ 7131595 by omega⟩ rfl rfl (Nat.le_of_ble_eq_true rfl) ?_
  refine e_istore_6 dL_law_1663 rfl (Nat.le_of_ble_eq_true rfl) rfl ?_
  refine e_aload_2 dL_law_1665 rfl ?_
  refine e_aload_0 dL_law_1666 rfl ?_
  refine e_iload_5 dL_law_1667 rfl ?_
  refine e_iconst (v := nI 1) dL_law_1669 rfl ic_1 ?_
  refine e_iadd dL_law_1670 rfl ?_
  refine e_topi (nI (7 * j + 1)) (nI_add _ _) ?_
  refine e_sld dL_law_1671 rfl rfl (by omega) hL ?_
  refine e_callV dL_law_1672 rfl csL_211 h3 rfl rfl ps_64 (by decide) (by decide) ⟨Nat.le_of_ble_eq_true rfl, Nat.le_of_ble_eq_true rfl⟩ ⟨show _ ≤ 628212 by omega, show _ ≤ 7131595 by omega⟩ rfl rfl (Nat.le_of_ble_eq_true rfl) ?_
  refine e_istore_7 dL_law_1675 rfl (Nat.le_of_ble_eq_true rfl) rfl ?_
  refine e_aload_2 dL_law_1677 rfl ?_
  refine e_callV dL_law_1678 rfl csL_131 (m_thrown hf ho9) rfl rfl ps_64 (by decide) (by decide) ⟨Nat.le_of_ble_eq_true rfl, Nat.le_of_ble_eq_true rfl⟩ ⟨show _ ≤ 628212 by omega, show _ ≤ 7131595 by omega⟩ rfl rfl (Nat.le_of_ble_eq_true rfl) ?_
  refine e_topi (nI k) h4 ?_
  refine e_iload_6 dL_law_1681 rfl ?_
  refine e_nc_eq_t (tgt := 1688) dL_law_1683 (by decide) (by omega) (by omega) rfl ?_
  refine e_iload_6 dL_law_1688 rfl ?_
  rcases Nat.eq_zero_or_pos k with hk0 | hk0
  · subst hk0
    have h2 := h2 rfl
    refine e_if_ne_f dL_law_1690 rfl ⟨1705, by decide⟩ (by decide) ?_
    refine e_aload_3 dL_law_1693 rfl ?_
    refine e_iconst (v := nI 0) dL_law_1694 rfl ic_0 ?_
    refine e_lald dL_law_1695 rfl ps_84 (by decide) rfl (by omega) ?_
    refine e_iload_7 dL_law_1696 rfl ?_
    refine e_i2l dL_law_1698 rfl ?_
    refine e_lcmp dL_law_1699 rfl ?_
    refine e_topi 0 (by rw [h2]; exact lg_cmp_self _) ?_
    refine e_if_eq_t (tgt := 1705) dL_law_1700 (by decide) rfl ?_
    refine e_goto (tgt := 2200) dL_law_1705 (by decide) ?_
    refine e_weak (lo' := [some (.ref 1000), some (.ref 0), some (.ref 64), some (.ref 84), some (.ref 85), some (.int (nI (7 * j))), none, none, none]) (weak_c (weak_c (weak_c (weak_c (weak_c (weak_c (weak_n (weak_n (weak_n weak_nil))))))))) ?_
    refine e_wid (show _ ≤ u + 6 by omega) (show _ ≤ w + 36 by omega) ?_
    exact kk N h5
  · refine e_if_ne_t (tgt := 1705) dL_law_1690 (by decide) (nI_ne0 hk0 (by omega)) ?_
    refine e_goto (tgt := 2200) dL_law_1705 (by decide) ?_
    refine e_weak (lo' := [some (.ref 1000), some (.ref 0), some (.ref 64), some (.ref 84), some (.ref 85), some (.int (nI (7 * j))), none, none, none]) (weak_c (weak_c (weak_c (weak_c (weak_c (weak_c (weak_n (weak_n (weak_n weak_nil))))))))) ?_
    refine e_wid (show _ ≤ u + 6 by omega) (show _ ≤ w + 36 by omega) ?_
    exact kk N h5
theorem lc_isShadowed {l : Launch} (hf : l.stackTraces = false) {nm : String} {hl : List (Nat × Nat × Nat × Nat)} {b Ln : Nat} {xs : Nat → Int32} (hL : Ln ≤ 3584) {M : pmM} (h : RLX M) {j u w : Nat} (hi : 7 * j + 7 ≤ Ln) (hu : u + 6 ≤ 628212) (hw : w + 36 ≤ 7131595) (kk : ∀ N, RLX N → Ev l (kLaw nm hl) (gS b Ln xs) room_1 86 (u + 6) (w + 36) 2200 [some (.ref 1000), some (.ref 0), some (.ref 64), some (.ref 84), some (.ref 85), some (.int (nI (7 * j))), none, none, none] [] N) : Ev l (kLaw nm hl) (gS b Ln xs) room_1 86 u w 1708 [some (.ref 1000), some (.ref 0), some (.ref 64), some (.ref 84), some (.ref 85), some (.int (nI (7 * j))), none, none, none] [] M := by
  obtain ⟨k, M1, q, N, hk, h1, h2, h3, h4, h5⟩ := p_isShadowed hf h (xs (7 * j + 1))
  obtain ⟨od9, ho9⟩ := h5.mr
  refine e_aload_1 dL_law_1708 rfl ?_
  refine e_aload_0 dL_law_1709 rfl ?_
  refine e_iload_5 dL_law_1710 rfl ?_
  refine e_iconst (v := nI 1) dL_law_1712 rfl ic_1 ?_
  refine e_iadd dL_law_1713 rfl ?_
  refine e_topi (nI (7 * j + 1)) (nI_add _ _) ?_
  refine e_sld dL_law_1714 rfl rfl (by omega) hL ?_
  refine e_aload_3 dL_law_1715 rfl ?_
  refine e_callW dL_law_1716 rfl csL_212 h1 rfl rfl ⟨Nat.le_of_ble_eq_true rfl, Nat.le_of_ble_eq_true rfl⟩ ⟨show u + 1 ≤ 628212 by omega, show w + 6 * 1 ≤ 7131595 by omega⟩ rfl rfl (Nat.le_of_ble_eq_true rfl) ?_
  refine e_istore_6 dL_law_1719 rfl (Nat.le_of_ble_eq_true rfl) rfl ?_
  refine e_aload_2 dL_law_1721 rfl ?_
  refine e_aload_0 dL_law_1722 rfl ?_
  refine e_iload_5 dL_law_1723 rfl ?_
  refine e_iconst (v := nI 1) dL_law_1725 rfl ic_1 ?_
  refine e_iadd dL_law_1726 rfl ?_
  refine e_topi (nI (7 * j + 1)) (nI_add _ _) ?_
  refine e_sld dL_law_1727 rfl rfl (by omega) hL ?_
  refine e_callV dL_law_1728 rfl csL_214 h3 rfl rfl ps_64 (by decide) (by decide) ⟨Nat.le_of_ble_eq_true rfl, Nat.le_of_ble_eq_true rfl⟩ ⟨show _ ≤ 628212 by omega, show _ ≤ 7131595 by omega⟩ rfl rfl (Nat.le_of_ble_eq_true rfl) ?_
  refine e_istore_7 dL_law_1731 rfl (Nat.le_of_ble_eq_true rfl) rfl ?_
  refine e_aload_2 dL_law_1733 rfl ?_
  refine e_callV dL_law_1734 rfl csL_131 (m_thrown hf ho9) rfl rfl ps_64 (by decide) (by decide) ⟨Nat.le_of_ble_eq_true rfl, Nat.le_of_ble_eq_true rfl⟩ ⟨show _ ≤ 628212 by omega, show _ ≤ 7131595 by omega⟩ rfl rfl (Nat.le_of_ble_eq_true rfl) ?_
  refine e_topi (nI k) h4 ?_
  refine e_iload_6 dL_law_1737 rfl ?_
  refine e_nc_eq_t (tgt := 1744) dL_law_1739 (by decide) (by omega) (by omega) rfl ?_
  refine e_iload_6 dL_law_1744 rfl ?_
  rcases Nat.eq_zero_or_pos k with hk0 | hk0
  · subst hk0
    have h2 := h2 rfl
    refine e_if_ne_f dL_law_1746 rfl ⟨1768, by decide⟩ (by decide) ?_
    refine e_aload_3 dL_law_1749 rfl ?_
    refine e_iconst (v := nI 0) dL_law_1750 rfl ic_0 ?_
    refine e_lald dL_law_1751 rfl ps_84 (by decide) rfl (by omega) ?_
    refine e_iload_7 dL_law_1752 rfl ?_
    cases q with
    | false =>
      refine e_if_eq_t (tgt := 1761) dL_law_1754 (by decide) (bI0 rfl) ?_
      refine e_lconst (v := 0) dL_law_1761 rfl rfl ?_
      refine e_lcmp dL_law_1762 rfl ?_
      refine e_topi 0 (by rw [h2]; exact lg_cmp_self _) ?_
      refine e_if_eq_t (tgt := 1768) dL_law_1763 (by decide) rfl ?_
      refine e_goto (tgt := 2200) dL_law_1768 (by decide) ?_
      refine e_weak (lo' := [some (.ref 1000), some (.ref 0), some (.ref 64), some (.ref 84), some (.ref 85), some (.int (nI (7 * j))), none, none, none]) (weak_c (weak_c (weak_c (weak_c (weak_c (weak_c (weak_n (weak_n (weak_n weak_nil))))))))) ?_
      refine e_wid (show _ ≤ u + 6 by omega) (show _ ≤ w + 36 by omega) ?_
      exact kk N h5
    | true =>
      refine e_if_eq_f dL_law_1754 rfl ⟨1761, by decide⟩ (bI1 rfl) ?_
      refine e_lconst (v := 1) dL_law_1757 rfl rfl ?_
      refine e_goto (tgt := 1762) dL_law_1758 (by decide) ?_
      refine e_lcmp dL_law_1762 rfl ?_
      refine e_topi 0 (by rw [h2]; exact lg_cmp_self _) ?_
      refine e_if_eq_t (tgt := 1768) dL_law_1763 (by decide) rfl ?_
      refine e_goto (tgt := 2200) dL_law_1768 (by decide) ?_
      refine e_weak (lo' := [some (.ref 1000), some (.ref 0), some (.ref 64), some (.ref 84), some (.ref 85), some (.int (nI (7 * j))), none, none, none]) (weak_c (weak_c (weak_c (weak_c (weak_c (weak_c (weak_n (weak_n (weak_n weak_nil))))))))) ?_
      refine e_wid (show _ ≤ u + 6 by omega) (show _ ≤ w + 36 by omega) ?_
      exact kk N h5
  · refine e_if_ne_t (tgt := 1768) dL_law_1746 (by decide) (nI_ne0 hk0 (by omega)) ?_
    refine e_goto (tgt := 2200) dL_law_1768 (by decide) ?_
    refine e_weak (lo' := [some (.ref 1000), some (.ref 0), some (.ref 64), some (.ref 84), some (.ref 85), some (.int (nI (7 * j))), none, none, none]) (weak_c (weak_c (weak_c (weak_c (weak_c (weak_c (weak_n (weak_n (weak_n weak_nil))))))))) ?_
    refine e_wid (show _ ≤ u + 6 by omega) (show _ ≤ w + 36 by omega) ?_
    exact kk N h5
theorem lc_mainShadow {l : Launch} (hf : l.stackTraces = false) {nm : String} {hl : List (Nat × Nat × Nat × Nat)} {b Ln : Nat} {xs : Nat → Int32} (hL : Ln ≤ 3584) {M : pmM} (h : RLX M) {j u w : Nat} (hi : 7 * j + 7 ≤ Ln) (hu : u + 6 ≤ 628212) (hw : w + 36 ≤ 7131595) (kk : ∀ N, RLX N → Ev l (kLaw nm hl) (gS b Ln xs) room_1 86 (u + 6) (w + 36) 2200 [some (.ref 1000), some (.ref 0), some (.ref 64), some (.ref 84), some (.ref 85), some (.int (nI (7 * j))), none, none, none] [] N) : Ev l (kLaw nm hl) (gS b Ln xs) room_1 86 u w 1771 [some (.ref 1000), some (.ref 0), some (.ref 64), some (.ref 84), some (.ref 85), some (.int (nI (7 * j))), none, none, none] [] M := by
  obtain ⟨k, M1, v, N, hk, h1, h2, h3, h4, h5⟩ := p_mainShadow hf h (xs (7 * j + 1))
  obtain ⟨od9, ho9⟩ := h5.mr
  refine e_aload_1 dL_law_1771 rfl ?_
  refine e_aload_0 dL_law_1772 rfl ?_
  refine e_iload_5 dL_law_1773 rfl ?_
  refine e_iconst (v := nI 1) dL_law_1775 rfl ic_1 ?_
  refine e_iadd dL_law_1776 rfl ?_
  refine e_topi (nI (7 * j + 1)) (nI_add _ _) ?_
  refine e_sld dL_law_1777 rfl rfl (by omega) hL ?_
  refine e_aload_3 dL_law_1778 rfl ?_
  refine e_callW dL_law_1779 rfl csL_215 h1 rfl rfl ⟨Nat.le_of_ble_eq_true rfl, Nat.le_of_ble_eq_true rfl⟩ ⟨show u + 2 ≤ 628212 by omega, show w + 6 * 2 ≤ 7131595 by omega⟩ rfl rfl (Nat.le_of_ble_eq_true rfl) ?_
  refine e_istore_6 dL_law_1782 rfl (Nat.le_of_ble_eq_true rfl) rfl ?_
  refine e_aload_2 dL_law_1784 rfl ?_
  refine e_aload_0 dL_law_1785 rfl ?_
  refine e_iload_5 dL_law_1786 rfl ?_
  refine e_iconst (v := nI 1) dL_law_1788 rfl ic_1 ?_
  refine e_iadd dL_law_1789 rfl ?_
  refine e_topi (nI (7 * j + 1)) (nI_add _ _) ?_
  refine e_sld dL_law_1790 rfl rfl (by omega) hL ?_
  refine e_callV dL_law_1791 rfl csL_217 h3 rfl rfl ps_64 (by decide) (by decide) ⟨Nat.le_of_ble_eq_true rfl, Nat.le_of_ble_eq_true rfl⟩ ⟨show _ ≤ 628212 by omega, show _ ≤ 7131595 by omega⟩ rfl rfl (Nat.le_of_ble_eq_true rfl) ?_
  refine e_istore_7 dL_law_1794 rfl (Nat.le_of_ble_eq_true rfl) rfl ?_
  refine e_aload_2 dL_law_1796 rfl ?_
  refine e_callV dL_law_1797 rfl csL_131 (m_thrown hf ho9) rfl rfl ps_64 (by decide) (by decide) ⟨Nat.le_of_ble_eq_true rfl, Nat.le_of_ble_eq_true rfl⟩ ⟨show _ ≤ 628212 by omega, show _ ≤ 7131595 by omega⟩ rfl rfl (Nat.le_of_ble_eq_true rfl) ?_
  refine e_topi (nI k) h4 ?_
  refine e_iload_6 dL_law_1800 rfl ?_
  refine e_nc_eq_t (tgt := 1807) dL_law_1802 (by decide) (by omega) (by omega) rfl ?_
  refine e_iload_6 dL_law_1807 rfl ?_
  rcases Nat.eq_zero_or_pos k with hk0 | hk0
  · subst hk0
    have h2 := h2 rfl
    refine e_if_ne_f dL_law_1809 rfl ⟨1824, by decide⟩ (by decide) ?_
    refine e_aload_3 dL_law_1812 rfl ?_
    refine e_iconst (v := nI 0) dL_law_1813 rfl ic_0 ?_
    refine e_lald dL_law_1814 rfl ps_84 (by decide) rfl (by omega) ?_
    refine e_iload_7 dL_law_1815 rfl ?_
    refine e_i2l dL_law_1817 rfl ?_
    refine e_lcmp dL_law_1818 rfl ?_
    refine e_topi 0 (by rw [h2]; exact lg_cmp_self _) ?_
    refine e_if_eq_t (tgt := 1824) dL_law_1819 (by decide) rfl ?_
    refine e_goto (tgt := 2200) dL_law_1824 (by decide) ?_
    refine e_weak (lo' := [some (.ref 1000), some (.ref 0), some (.ref 64), some (.ref 84), some (.ref 85), some (.int (nI (7 * j))), none, none, none]) (weak_c (weak_c (weak_c (weak_c (weak_c (weak_c (weak_n (weak_n (weak_n weak_nil))))))))) ?_
    refine e_wid (show _ ≤ u + 6 by omega) (show _ ≤ w + 36 by omega) ?_
    exact kk N h5
  · refine e_if_ne_t (tgt := 1824) dL_law_1809 (by decide) (nI_ne0 hk0 (by omega)) ?_
    refine e_goto (tgt := 2200) dL_law_1824 (by decide) ?_
    refine e_weak (lo' := [some (.ref 1000), some (.ref 0), some (.ref 64), some (.ref 84), some (.ref 85), some (.int (nI (7 * j))), none, none, none]) (weak_c (weak_c (weak_c (weak_c (weak_c (weak_c (weak_n (weak_n (weak_n weak_nil))))))))) ?_
    refine e_wid (show _ ≤ u + 6 by omega) (show _ ≤ w + 36 by omega) ?_
    exact kk N h5
theorem lc_accepted {l : Launch} (hf : l.stackTraces = false) {nm : String} {hl : List (Nat × Nat × Nat × Nat)} {b Ln : Nat} {xs : Nat → Int32} (hL : Ln ≤ 3584) {M : pmM} (h : RLX M) {j u w : Nat} (hi : 7 * j + 7 ≤ Ln) (hu : u + 6 ≤ 628212) (hw : w + 36 ≤ 7131595) (kk : ∀ N, RLX N → Ev l (kLaw nm hl) (gS b Ln xs) room_1 86 (u + 6) (w + 36) 2200 [some (.ref 1000), some (.ref 0), some (.ref 64), some (.ref 84), some (.ref 85), some (.int (nI (7 * j))), none, none, none] [] N) : Ev l (kLaw nm hl) (gS b Ln xs) room_1 86 u w 1827 [some (.ref 1000), some (.ref 0), some (.ref 64), some (.ref 84), some (.ref 85), some (.int (nI (7 * j))), none, none, none] [] M := by
  obtain ⟨M1, v, N, h1, h2, h3, h5⟩ := p_accepted hf h
  refine e_aload_1 dL_law_1827 rfl ?_
  refine e_callV dL_law_1828 rfl csL_218 h1 rfl rfl ps_0 (by decide) (by decide) ⟨Nat.le_of_ble_eq_true rfl, Nat.le_of_ble_eq_true rfl⟩ ⟨show _ ≤ 628212 by omega, show _ ≤ 7131595 by omega⟩ rfl rfl (Nat.le_of_ble_eq_true rfl) ?_
  refine e_aload_2 dL_law_1831 rfl ?_
  refine e_callV dL_law_1832 rfl csL_221 h2 rfl rfl ps_64 (by decide) (by decide) ⟨Nat.le_of_ble_eq_true rfl, Nat.le_of_ble_eq_true rfl⟩ ⟨show _ ≤ 628212 by omega, show _ ≤ 7131595 by omega⟩ rfl rfl (Nat.le_of_ble_eq_true rfl) ?_
  refine e_ic_eq_t (tgt := 2200) dL_law_1835 (by decide) rfl ?_
  refine e_weak (lo' := [some (.ref 1000), some (.ref 0), some (.ref 64), some (.ref 84), some (.ref 85), some (.int (nI (7 * j))), none, none, none]) (weak_c (weak_c (weak_c (weak_c (weak_c (weak_c (weak_n (weak_n (weak_n weak_nil))))))))) ?_
  refine e_wid (show _ ≤ u + 6 by omega) (show _ ≤ w + 36 by omega) ?_
  exact kk N h5
theorem lc_changedByMove {l : Launch} (hf : l.stackTraces = false) {nm : String} {hl : List (Nat × Nat × Nat × Nat)} {b Ln : Nat} {xs : Nat → Int32} (hL : Ln ≤ 3584) {M : pmM} (h : RLX M) {j u w : Nat} (hi : 7 * j + 7 ≤ Ln) (hu : u + 6 ≤ 628212) (hw : w + 36 ≤ 7131595) (kk : ∀ N, RLX N → Ev l (kLaw nm hl) (gS b Ln xs) room_1 86 (u + 6) (w + 36) 2200 [some (.ref 1000), some (.ref 0), some (.ref 64), some (.ref 84), some (.ref 85), some (.int (nI (7 * j))), none, none, none] [] N) : Ev l (kLaw nm hl) (gS b Ln xs) room_1 86 u w 1840 [some (.ref 1000), some (.ref 0), some (.ref 64), some (.ref 84), some (.ref 85), some (.int (nI (7 * j))), none, none, none] [] M := by
  obtain ⟨k, M1, v, N, hk, h1, h2, h3, h4, h5⟩ := p_changedByMove hf h (xs (7 * j + 1)) (xs (7 * j + 2))
  obtain ⟨od9, ho9⟩ := h5.mr
  refine e_aload_1 dL_law_1840 rfl ?_
  refine e_aload_0 dL_law_1841 rfl ?_
  refine e_iload_5 dL_law_1842 rfl ?_
  refine e_iconst (v := nI 1) dL_law_1844 rfl ic_1 ?_
  refine e_iadd dL_law_1845 rfl ?_
  refine e_topi (nI (7 * j + 1)) (nI_add _ _) ?_
  refine e_sld dL_law_1846 rfl rfl (by omega) hL ?_
  refine e_aload_0 dL_law_1847 rfl ?_
  refine e_iload_5 dL_law_1848 rfl ?_
  refine e_iconst (v := nI 2) dL_law_1850 rfl ic_2 ?_
  refine e_iadd dL_law_1851 rfl ?_
  refine e_topi (nI (7 * j + 2)) (nI_add _ _) ?_
  refine e_sld dL_law_1852 rfl rfl (by omega) hL ?_
  refine e_aload_3 dL_law_1853 rfl ?_
  refine e_callW dL_law_1854 rfl csL_222 h1 rfl rfl ⟨Nat.le_of_ble_eq_true rfl, Nat.le_of_ble_eq_true rfl⟩ ⟨show u + 2 ≤ 628212 by omega, show w + 6 * 2 ≤ 7131595 by omega⟩ rfl rfl (Nat.le_of_ble_eq_true rfl) ?_
  refine e_istore_6 dL_law_1857 rfl (Nat.le_of_ble_eq_true rfl) rfl ?_
  refine e_aload_2 dL_law_1859 rfl ?_
  refine e_aload_0 dL_law_1860 rfl ?_
  refine e_iload_5 dL_law_1861 rfl ?_
  refine e_iconst (v := nI 1) dL_law_1863 rfl ic_1 ?_
  refine e_iadd dL_law_1864 rfl ?_
  refine e_topi (nI (7 * j + 1)) (nI_add _ _) ?_
  refine e_sld dL_law_1865 rfl rfl (by omega) hL ?_
  refine e_aload_0 dL_law_1866 rfl ?_
  refine e_iload_5 dL_law_1867 rfl ?_
  refine e_iconst (v := nI 2) dL_law_1869 rfl ic_2 ?_
  refine e_iadd dL_law_1870 rfl ?_
  refine e_topi (nI (7 * j + 2)) (nI_add _ _) ?_
  refine e_sld dL_law_1871 rfl rfl (by omega) hL ?_
  refine e_callV dL_law_1872 rfl csL_224 h3 rfl rfl ps_64 (by decide) (by decide) ⟨Nat.le_of_ble_eq_true rfl, Nat.le_of_ble_eq_true rfl⟩ ⟨show _ ≤ 628212 by omega, show _ ≤ 7131595 by omega⟩ rfl rfl (Nat.le_of_ble_eq_true rfl) ?_
  refine e_istore_7 dL_law_1875 rfl (Nat.le_of_ble_eq_true rfl) rfl ?_
  refine e_aload_2 dL_law_1877 rfl ?_
  refine e_callV dL_law_1878 rfl csL_131 (m_thrown hf ho9) rfl rfl ps_64 (by decide) (by decide) ⟨Nat.le_of_ble_eq_true rfl, Nat.le_of_ble_eq_true rfl⟩ ⟨show _ ≤ 628212 by omega, show _ ≤ 7131595 by omega⟩ rfl rfl (Nat.le_of_ble_eq_true rfl) ?_
  refine e_topi (nI k) h4 ?_
  refine e_iload_6 dL_law_1881 rfl ?_
  refine e_nc_eq_t (tgt := 1888) dL_law_1883 (by decide) (by omega) (by omega) rfl ?_
  refine e_iload_6 dL_law_1888 rfl ?_
  rcases Nat.eq_zero_or_pos k with hk0 | hk0
  · subst hk0
    have h2 := h2 rfl
    refine e_if_ne_f dL_law_1890 rfl ⟨1905, by decide⟩ (by decide) ?_
    refine e_aload_3 dL_law_1893 rfl ?_
    refine e_iconst (v := nI 0) dL_law_1894 rfl ic_0 ?_
    refine e_lald dL_law_1895 rfl ps_84 (by decide) rfl (by omega) ?_
    refine e_iload_7 dL_law_1896 rfl ?_
    refine e_i2l dL_law_1898 rfl ?_
    refine e_lcmp dL_law_1899 rfl ?_
    refine e_topi 0 (by rw [h2]; exact lg_cmp_self _) ?_
    refine e_if_eq_t (tgt := 1905) dL_law_1900 (by decide) rfl ?_
    refine e_goto (tgt := 2200) dL_law_1905 (by decide) ?_
    refine e_weak (lo' := [some (.ref 1000), some (.ref 0), some (.ref 64), some (.ref 84), some (.ref 85), some (.int (nI (7 * j))), none, none, none]) (weak_c (weak_c (weak_c (weak_c (weak_c (weak_c (weak_n (weak_n (weak_n weak_nil))))))))) ?_
    refine e_wid (show _ ≤ u + 6 by omega) (show _ ≤ w + 36 by omega) ?_
    exact kk N h5
  · refine e_if_ne_t (tgt := 1905) dL_law_1890 (by decide) (nI_ne0 hk0 (by omega)) ?_
    refine e_goto (tgt := 2200) dL_law_1905 (by decide) ?_
    refine e_weak (lo' := [some (.ref 1000), some (.ref 0), some (.ref 64), some (.ref 84), some (.ref 85), some (.int (nI (7 * j))), none, none, none]) (weak_c (weak_c (weak_c (weak_c (weak_c (weak_c (weak_n (weak_n (weak_n weak_nil))))))))) ?_
    refine e_wid (show _ ≤ u + 6 by omega) (show _ ≤ w + 36 by omega) ?_
    exact kk N h5
theorem lc_move {l : Launch} (hf : l.stackTraces = false) {nm : String} {hl : List (Nat × Nat × Nat × Nat)} {b Ln : Nat} {xs : Nat → Int32} (hL : Ln ≤ 3584) {M : pmM} (h : RLX M) {j u w : Nat} (hi : 7 * j + 7 ≤ Ln) (hu : u + 6 ≤ 628212) (hw : w + 36 ≤ 7131595) (kk : ∀ N, RLX N → Ev l (kLaw nm hl) (gS b Ln xs) room_1 86 (u + 6) (w + 36) 2200 [some (.ref 1000), some (.ref 0), some (.ref 64), some (.ref 84), some (.ref 85), some (.int (nI (7 * j))), none, none, none] [] N) : Ev l (kLaw nm hl) (gS b Ln xs) room_1 86 u w 1908 [some (.ref 1000), some (.ref 0), some (.ref 64), some (.ref 84), some (.ref 85), some (.int (nI (7 * j))), none, none, none] [] M := by
  obtain ⟨k, M1, v, N, hk, h1, h2, h3, h4, h5⟩ := p_move hf h (xs (7 * j + 1)) (xs (7 * j + 2))
  obtain ⟨od9, ho9⟩ := h5.mr
  refine e_aload_1 dL_law_1908 rfl ?_
  refine e_aload_0 dL_law_1909 rfl ?_
  refine e_iload_5 dL_law_1910 rfl ?_
  refine e_iconst (v := nI 1) dL_law_1912 rfl ic_1 ?_
  refine e_iadd dL_law_1913 rfl ?_
  refine e_topi (nI (7 * j + 1)) (nI_add _ _) ?_
  refine e_sld dL_law_1914 rfl rfl (by omega) hL ?_
  refine e_aload_0 dL_law_1915 rfl ?_
  refine e_iload_5 dL_law_1916 rfl ?_
  refine e_iconst (v := nI 2) dL_law_1918 rfl ic_2 ?_
  refine e_iadd dL_law_1919 rfl ?_
  refine e_topi (nI (7 * j + 2)) (nI_add _ _) ?_
  refine e_sld dL_law_1920 rfl rfl (by omega) hL ?_
  refine e_aload_3 dL_law_1921 rfl ?_
  refine e_callW dL_law_1922 rfl csL_225 h1 rfl rfl ⟨Nat.le_of_ble_eq_true rfl, Nat.le_of_ble_eq_true rfl⟩ ⟨show u + 3 ≤ 628212 by omega, show w + 6 * 3 ≤ 7131595 by omega⟩ rfl rfl (Nat.le_of_ble_eq_true rfl) ?_
  refine e_istore_6 dL_law_1925 rfl (Nat.le_of_ble_eq_true rfl) rfl ?_
  refine e_aload_2 dL_law_1927 rfl ?_
  refine e_aload_0 dL_law_1928 rfl ?_
  refine e_iload_5 dL_law_1929 rfl ?_
  refine e_iconst (v := nI 1) dL_law_1931 rfl ic_1 ?_
  refine e_iadd dL_law_1932 rfl ?_
  refine e_topi (nI (7 * j + 1)) (nI_add _ _) ?_
  refine e_sld dL_law_1933 rfl rfl (by omega) hL ?_
  refine e_aload_0 dL_law_1934 rfl ?_
  refine e_iload_5 dL_law_1935 rfl ?_
  refine e_iconst (v := nI 2) dL_law_1937 rfl ic_2 ?_
  refine e_iadd dL_law_1938 rfl ?_
  refine e_topi (nI (7 * j + 2)) (nI_add _ _) ?_
  refine e_sld dL_law_1939 rfl rfl (by omega) hL ?_
  refine e_callV dL_law_1940 rfl csL_227 h3 rfl rfl ps_64 (by decide) (by decide) ⟨Nat.le_of_ble_eq_true rfl, Nat.le_of_ble_eq_true rfl⟩ ⟨show _ ≤ 628212 by omega, show _ ≤ 7131595 by omega⟩ rfl rfl (Nat.le_of_ble_eq_true rfl) ?_
  refine e_istore_7 dL_law_1943 rfl (Nat.le_of_ble_eq_true rfl) rfl ?_
  refine e_aload_2 dL_law_1945 rfl ?_
  refine e_callV dL_law_1946 rfl csL_131 (m_thrown hf ho9) rfl rfl ps_64 (by decide) (by decide) ⟨Nat.le_of_ble_eq_true rfl, Nat.le_of_ble_eq_true rfl⟩ ⟨show _ ≤ 628212 by omega, show _ ≤ 7131595 by omega⟩ rfl rfl (Nat.le_of_ble_eq_true rfl) ?_
  refine e_topi (nI k) h4 ?_
  refine e_iload_6 dL_law_1949 rfl ?_
  refine e_nc_eq_t (tgt := 1956) dL_law_1951 (by decide) (by omega) (by omega) rfl ?_
  refine e_iload_6 dL_law_1956 rfl ?_
  rcases Nat.eq_zero_or_pos k with hk0 | hk0
  · subst hk0
    have h2 := h2 rfl
    refine e_if_ne_f dL_law_1958 rfl ⟨1973, by decide⟩ (by decide) ?_
    refine e_aload_3 dL_law_1961 rfl ?_
    refine e_iconst (v := nI 0) dL_law_1962 rfl ic_0 ?_
    refine e_lald dL_law_1963 rfl ps_84 (by decide) rfl (by omega) ?_
    refine e_iload_7 dL_law_1964 rfl ?_
    refine e_i2l dL_law_1966 rfl ?_
    refine e_lcmp dL_law_1967 rfl ?_
    refine e_topi 0 (by rw [h2]; exact lg_cmp_self _) ?_
    refine e_if_eq_t (tgt := 1973) dL_law_1968 (by decide) rfl ?_
    refine e_goto (tgt := 2200) dL_law_1973 (by decide) ?_
    refine e_weak (lo' := [some (.ref 1000), some (.ref 0), some (.ref 64), some (.ref 84), some (.ref 85), some (.int (nI (7 * j))), none, none, none]) (weak_c (weak_c (weak_c (weak_c (weak_c (weak_c (weak_n (weak_n (weak_n weak_nil))))))))) ?_
    refine e_wid (show _ ≤ u + 6 by omega) (show _ ≤ w + 36 by omega) ?_
    exact kk N h5
  · refine e_if_ne_t (tgt := 1973) dL_law_1958 (by decide) (nI_ne0 hk0 (by omega)) ?_
    refine e_goto (tgt := 2200) dL_law_1973 (by decide) ?_
    refine e_weak (lo' := [some (.ref 1000), some (.ref 0), some (.ref 64), some (.ref 84), some (.ref 85), some (.int (nI (7 * j))), none, none, none]) (weak_c (weak_c (weak_c (weak_c (weak_c (weak_c (weak_n (weak_n (weak_n weak_nil))))))))) ?_
    refine e_wid (show _ ≤ u + 6 by omega) (show _ ≤ w + 36 by omega) ?_
    exact kk N h5
theorem lc_sortByHits {l : Launch} (hf : l.stackTraces = false) {nm : String} {hl : List (Nat × Nat × Nat × Nat)} {b Ln : Nat} {xs : Nat → Int32} (hL : Ln ≤ 3584) {M : pmM} (h : RLX M) {j u w : Nat} (hi : 7 * j + 7 ≤ Ln) (hu : u + 6 ≤ 628212) (hw : w + 36 ≤ 7131595) (kk : ∀ N, RLX N → Ev l (kLaw nm hl) (gS b Ln xs) room_1 86 (u + 6) (w + 36) 2200 [some (.ref 1000), some (.ref 0), some (.ref 64), some (.ref 84), some (.ref 85), some (.int (nI (7 * j))), none, none, none] [] N) : Ev l (kLaw nm hl) (gS b Ln xs) room_1 86 u w 1976 [some (.ref 1000), some (.ref 0), some (.ref 64), some (.ref 84), some (.ref 85), some (.int (nI (7 * j))), none, none, none] [] M := by
  obtain ⟨M1, v, N, h1, h2, h3, h5⟩ := p_sortByHits hf h
  refine e_aload_1 dL_law_1976 rfl ?_
  refine e_callV dL_law_1977 rfl csL_228 h1 rfl rfl ps_0 (by decide) (by decide) ⟨Nat.le_of_ble_eq_true rfl, Nat.le_of_ble_eq_true rfl⟩ ⟨show _ ≤ 628212 by omega, show _ ≤ 7131595 by omega⟩ rfl rfl (Nat.le_of_ble_eq_true rfl) ?_
  refine e_aload_2 dL_law_1980 rfl ?_
  refine e_callV dL_law_1981 rfl csL_231 h2 rfl rfl ps_64 (by decide) (by decide) ⟨Nat.le_of_ble_eq_true rfl, Nat.le_of_ble_eq_true rfl⟩ ⟨show _ ≤ 628212 by omega, show _ ≤ 7131595 by omega⟩ rfl rfl (Nat.le_of_ble_eq_true rfl) ?_
  refine e_ic_eq_t (tgt := 2200) dL_law_1984 (by decide) rfl ?_
  refine e_weak (lo' := [some (.ref 1000), some (.ref 0), some (.ref 64), some (.ref 84), some (.ref 85), some (.int (nI (7 * j))), none, none, none]) (weak_c (weak_c (weak_c (weak_c (weak_c (weak_c (weak_n (weak_n (weak_n weak_nil))))))))) ?_
  refine e_wid (show _ ≤ u + 6 by omega) (show _ ≤ w + 36 by omega) ?_
  exact kk N h5
theorem lc_changedByRange {l : Launch} (hf : l.stackTraces = false) {nm : String} {hl : List (Nat × Nat × Nat × Nat)} {b Ln : Nat} {xs : Nat → Int32} (hL : Ln ≤ 3584) {M : pmM} (h : RLX M) {j u w : Nat} (hi : 7 * j + 7 ≤ Ln) (hu : u + 6 ≤ 628212) (hw : w + 36 ≤ 7131595) (kk : ∀ N, RLX N → Ev l (kLaw nm hl) (gS b Ln xs) room_1 86 (u + 6) (w + 36) 2200 [some (.ref 1000), some (.ref 0), some (.ref 64), some (.ref 84), some (.ref 85), some (.int (nI (7 * j))), none, none, none] [] N) : Ev l (kLaw nm hl) (gS b Ln xs) room_1 86 u w 1989 [some (.ref 1000), some (.ref 0), some (.ref 64), some (.ref 84), some (.ref 85), some (.int (nI (7 * j))), none, none, none] [] M := by
  obtain ⟨k, M1, v, N, hk, h1, h2, h3, h4, h5⟩ := p_changedByRange hf h (xs (7 * j + 1)) (xs (7 * j + 2)) (xs (7 * j + 3))
  obtain ⟨od9, ho9⟩ := h5.mr
  refine e_aload_1 dL_law_1989 rfl ?_
  refine e_aload_0 dL_law_1990 rfl ?_
  refine e_iload_5 dL_law_1991 rfl ?_
  refine e_iconst (v := nI 1) dL_law_1993 rfl ic_1 ?_
  refine e_iadd dL_law_1994 rfl ?_
  refine e_topi (nI (7 * j + 1)) (nI_add _ _) ?_
  refine e_sld dL_law_1995 rfl rfl (by omega) hL ?_
  refine e_aload_0 dL_law_1996 rfl ?_
  refine e_iload_5 dL_law_1997 rfl ?_
  refine e_iconst (v := nI 2) dL_law_1999 rfl ic_2 ?_
  refine e_iadd dL_law_2000 rfl ?_
  refine e_topi (nI (7 * j + 2)) (nI_add _ _) ?_
  refine e_sld dL_law_2001 rfl rfl (by omega) hL ?_
  refine e_aload_0 dL_law_2002 rfl ?_
  refine e_iload_5 dL_law_2003 rfl ?_
  refine e_iconst (v := nI 3) dL_law_2005 rfl ic_3 ?_
  refine e_iadd dL_law_2006 rfl ?_
  refine e_topi (nI (7 * j + 3)) (nI_add _ _) ?_
  refine e_sld dL_law_2007 rfl rfl (by omega) hL ?_
  refine e_aload_3 dL_law_2008 rfl ?_
  refine e_callW dL_law_2009 rfl csL_232 h1 rfl rfl ⟨Nat.le_of_ble_eq_true rfl, Nat.le_of_ble_eq_true rfl⟩ ⟨show u + 4 ≤ 628212 by omega, show w + 6 * 4 ≤ 7131595 by omega⟩ rfl rfl (Nat.le_of_ble_eq_true rfl) ?_
  refine e_istore_6 dL_law_2012 rfl (Nat.le_of_ble_eq_true rfl) rfl ?_
  refine e_aload_2 dL_law_2014 rfl ?_
  refine e_aload_0 dL_law_2015 rfl ?_
  refine e_iload_5 dL_law_2016 rfl ?_
  refine e_iconst (v := nI 1) dL_law_2018 rfl ic_1 ?_
  refine e_iadd dL_law_2019 rfl ?_
  refine e_topi (nI (7 * j + 1)) (nI_add _ _) ?_
  refine e_sld dL_law_2020 rfl rfl (by omega) hL ?_
  refine e_aload_0 dL_law_2021 rfl ?_
  refine e_iload_5 dL_law_2022 rfl ?_
  refine e_iconst (v := nI 2) dL_law_2024 rfl ic_2 ?_
  refine e_iadd dL_law_2025 rfl ?_
  refine e_topi (nI (7 * j + 2)) (nI_add _ _) ?_
  refine e_sld dL_law_2026 rfl rfl (by omega) hL ?_
  refine e_aload_0 dL_law_2027 rfl ?_
  refine e_iload_5 dL_law_2028 rfl ?_
  refine e_iconst (v := nI 3) dL_law_2030 rfl ic_3 ?_
  refine e_iadd dL_law_2031 rfl ?_
  refine e_topi (nI (7 * j + 3)) (nI_add _ _) ?_
  refine e_sld dL_law_2032 rfl rfl (by omega) hL ?_
  refine e_callV dL_law_2033 rfl csL_234 h3 rfl rfl ps_64 (by decide) (by decide) ⟨Nat.le_of_ble_eq_true rfl, Nat.le_of_ble_eq_true rfl⟩ ⟨show _ ≤ 628212 by omega, show _ ≤ 7131595 by omega⟩ rfl rfl (Nat.le_of_ble_eq_true rfl) ?_
  refine e_istore_7 dL_law_2036 rfl (Nat.le_of_ble_eq_true rfl) rfl ?_
  refine e_aload_2 dL_law_2038 rfl ?_
  refine e_callV dL_law_2039 rfl csL_131 (m_thrown hf ho9) rfl rfl ps_64 (by decide) (by decide) ⟨Nat.le_of_ble_eq_true rfl, Nat.le_of_ble_eq_true rfl⟩ ⟨show _ ≤ 628212 by omega, show _ ≤ 7131595 by omega⟩ rfl rfl (Nat.le_of_ble_eq_true rfl) ?_
  refine e_topi (nI k) h4 ?_
  refine e_iload_6 dL_law_2042 rfl ?_
  refine e_nc_eq_t (tgt := 2049) dL_law_2044 (by decide) (by omega) (by omega) rfl ?_
  refine e_iload_6 dL_law_2049 rfl ?_
  rcases Nat.eq_zero_or_pos k with hk0 | hk0
  · subst hk0
    have h2 := h2 rfl
    refine e_if_ne_f dL_law_2051 rfl ⟨2066, by decide⟩ (by decide) ?_
    refine e_aload_3 dL_law_2054 rfl ?_
    refine e_iconst (v := nI 0) dL_law_2055 rfl ic_0 ?_
    refine e_lald dL_law_2056 rfl ps_84 (by decide) rfl (by omega) ?_
    refine e_iload_7 dL_law_2057 rfl ?_
    refine e_i2l dL_law_2059 rfl ?_
    refine e_lcmp dL_law_2060 rfl ?_
    refine e_topi 0 (by rw [h2]; exact lg_cmp_self _) ?_
    refine e_if_eq_t (tgt := 2066) dL_law_2061 (by decide) rfl ?_
    refine e_goto (tgt := 2200) dL_law_2066 (by decide) ?_
    refine e_weak (lo' := [some (.ref 1000), some (.ref 0), some (.ref 64), some (.ref 84), some (.ref 85), some (.int (nI (7 * j))), none, none, none]) (weak_c (weak_c (weak_c (weak_c (weak_c (weak_c (weak_n (weak_n (weak_n weak_nil))))))))) ?_
    refine e_wid (show _ ≤ u + 6 by omega) (show _ ≤ w + 36 by omega) ?_
    exact kk N h5
  · refine e_if_ne_t (tgt := 2066) dL_law_2051 (by decide) (nI_ne0 hk0 (by omega)) ?_
    refine e_goto (tgt := 2200) dL_law_2066 (by decide) ?_
    refine e_weak (lo' := [some (.ref 1000), some (.ref 0), some (.ref 64), some (.ref 84), some (.ref 85), some (.int (nI (7 * j))), none, none, none]) (weak_c (weak_c (weak_c (weak_c (weak_c (weak_c (weak_n (weak_n (weak_n weak_nil))))))))) ?_
    refine e_wid (show _ ≤ u + 6 by omega) (show _ ≤ w + 36 by omega) ?_
    exact kk N h5
theorem lc_shadowedShare {l : Launch} (hf : l.stackTraces = false) {nm : String} {hl : List (Nat × Nat × Nat × Nat)} {b Ln : Nat} {xs : Nat → Int32} (hL : Ln ≤ 3584) {M : pmM} (h : RLX M) {j u w : Nat} (hi : 7 * j + 7 ≤ Ln) (hu : u + 6 ≤ 628212) (hw : w + 36 ≤ 7131595) (kk : ∀ N, RLX N → Ev l (kLaw nm hl) (gS b Ln xs) room_1 86 (u + 6) (w + 36) 2200 [some (.ref 1000), some (.ref 0), some (.ref 64), some (.ref 84), some (.ref 85), some (.int (nI (7 * j))), none, none, none] [] N) : Ev l (kLaw nm hl) (gS b Ln xs) room_1 86 u w 2069 [some (.ref 1000), some (.ref 0), some (.ref 64), some (.ref 84), some (.ref 85), some (.int (nI (7 * j))), none, none, none] [] M := by
  obtain ⟨k, M1, r, N, hk, h1, h2, h3, h4, h5⟩ := p_shadowedShare hf h
  obtain ⟨od9, ho9⟩ := h5.mr
  refine e_aload_1 dL_law_2069 rfl ?_
  refine e_aload_4 dL_law_2070 rfl ?_
  refine e_callW dL_law_2072 rfl csL_235 h1 rfl rfl ⟨Nat.le_of_ble_eq_true rfl, Nat.le_of_ble_eq_true rfl⟩ ⟨show u + 1 ≤ 628212 by omega, show w + 6 * 1 ≤ 7131595 by omega⟩ rfl rfl (Nat.le_of_ble_eq_true rfl) ?_
  refine e_istore_6 dL_law_2075 rfl (Nat.le_of_ble_eq_true rfl) rfl ?_
  refine e_aload_2 dL_law_2077 rfl ?_
  refine e_callV dL_law_2078 rfl csL_238 h3 rfl rfl ps_64 (by decide) (by decide) ⟨Nat.le_of_ble_eq_true rfl, Nat.le_of_ble_eq_true rfl⟩ ⟨show _ ≤ 628212 by omega, show _ ≤ 7131595 by omega⟩ rfl rfl (Nat.le_of_ble_eq_true rfl) ?_
  refine e_fstore_7 dL_law_2081 rfl (Nat.le_of_ble_eq_true rfl) rfl ?_
  refine e_aload_2 dL_law_2083 rfl ?_
  refine e_callV dL_law_2084 rfl csL_131 (m_thrown hf ho9) rfl rfl ps_64 (by decide) (by decide) ⟨Nat.le_of_ble_eq_true rfl, Nat.le_of_ble_eq_true rfl⟩ ⟨show _ ≤ 628212 by omega, show _ ≤ 7131595 by omega⟩ rfl rfl (Nat.le_of_ble_eq_true rfl) ?_
  refine e_topi (nI k) h4 ?_
  refine e_iload_6 dL_law_2087 rfl ?_
  refine e_nc_eq_t (tgt := 2094) dL_law_2089 (by decide) (by omega) (by omega) rfl ?_
  refine e_iload_6 dL_law_2094 rfl ?_
  rcases Nat.eq_zero_or_pos k with hk0 | hk0
  · subst hk0
    have h2 := h2 rfl
    obtain ⟨hr, h2⟩ := h2
    refine e_if_ne_f dL_law_2096 rfl ⟨2132, by decide⟩ (by decide) ?_
    refine e_aload_4 dL_law_2099 rfl ?_
    refine e_iconst (v := nI 0) dL_law_2101 rfl ic_0 ?_
    refine e_dald dL_law_2102 rfl ps_85 (by decide) rfl (by omega) ?_
    refine e_fload_7 dL_law_2103 rfl ?_
    refine e_f2d dL_law_2105 rfl hr ?_
    refine e_dcmp dL_law_2106 rfl ?_
    refine e_topi 0 (by rw [h2, fl_self hr]; rfl) ?_
    refine e_if_eq_t (tgt := 2132) dL_law_2107 (by decide) rfl ?_
    refine e_goto (tgt := 2200) dL_law_2132 (by decide) ?_
    refine e_weak (lo' := [some (.ref 1000), some (.ref 0), some (.ref 64), some (.ref 84), some (.ref 85), some (.int (nI (7 * j))), none, none, none]) (weak_c (weak_c (weak_c (weak_c (weak_c (weak_c (weak_n (weak_n (weak_n weak_nil))))))))) ?_
    refine e_wid (show _ ≤ u + 6 by omega) (show _ ≤ w + 36 by omega) ?_
    exact kk N h5
  · refine e_if_ne_t (tgt := 2132) dL_law_2096 (by decide) (nI_ne0 hk0 (by omega)) ?_
    refine e_goto (tgt := 2200) dL_law_2132 (by decide) ?_
    refine e_weak (lo' := [some (.ref 1000), some (.ref 0), some (.ref 64), some (.ref 84), some (.ref 85), some (.int (nI (7 * j))), none, none, none]) (weak_c (weak_c (weak_c (weak_c (weak_c (weak_c (weak_n (weak_n (weak_n weak_nil))))))))) ?_
    refine e_wid (show _ ≤ u + 6 by omega) (show _ ≤ w + 36 by omega) ?_
    exact kk N h5
theorem lc_meanHits {l : Launch} (hf : l.stackTraces = false) {nm : String} {hl : List (Nat × Nat × Nat × Nat)} {b Ln : Nat} {xs : Nat → Int32} (hL : Ln ≤ 3584) {M : pmM} (h : RLX M) {j u w : Nat} (hi : 7 * j + 7 ≤ Ln) (hu : u + 6 ≤ 628212) (hw : w + 36 ≤ 7131595) (kk : ∀ N, RLX N → Ev l (kLaw nm hl) (gS b Ln xs) room_1 86 (u + 6) (w + 36) 2200 [some (.ref 1000), some (.ref 0), some (.ref 64), some (.ref 84), some (.ref 85), some (.int (nI (7 * j))), none, none, none] [] N) : Ev l (kLaw nm hl) (gS b Ln xs) room_1 86 u w 2135 [some (.ref 1000), some (.ref 0), some (.ref 64), some (.ref 84), some (.ref 85), some (.int (nI (7 * j))), none, none, none] [] M := by
  obtain ⟨k, M1, r, N, hk, h1, h2, h3, h4, h5⟩ := p_meanHits hf h
  obtain ⟨od9, ho9⟩ := h5.mr
  refine e_aload_1 dL_law_2135 rfl ?_
  refine e_aload_4 dL_law_2136 rfl ?_
  refine e_callW dL_law_2138 rfl csL_239 h1 rfl rfl ⟨Nat.le_of_ble_eq_true rfl, Nat.le_of_ble_eq_true rfl⟩ ⟨show u + 1 ≤ 628212 by omega, show w + 6 * 1 ≤ 7131595 by omega⟩ rfl rfl (Nat.le_of_ble_eq_true rfl) ?_
  refine e_istore_6 dL_law_2141 rfl (Nat.le_of_ble_eq_true rfl) rfl ?_
  refine e_aload_2 dL_law_2143 rfl ?_
  refine e_callV dL_law_2144 rfl csL_241 h3 rfl rfl ps_64 (by decide) (by decide) ⟨Nat.le_of_ble_eq_true rfl, Nat.le_of_ble_eq_true rfl⟩ ⟨show _ ≤ 628212 by omega, show _ ≤ 7131595 by omega⟩ rfl rfl (Nat.le_of_ble_eq_true rfl) ?_
  refine e_dstore_7 dL_law_2147 rfl (Nat.le_of_ble_eq_true rfl) rfl ?_
  refine e_aload_2 dL_law_2149 rfl ?_
  refine e_callV dL_law_2150 rfl csL_131 (m_thrown hf ho9) rfl rfl ps_64 (by decide) (by decide) ⟨Nat.le_of_ble_eq_true rfl, Nat.le_of_ble_eq_true rfl⟩ ⟨show _ ≤ 628212 by omega, show _ ≤ 7131595 by omega⟩ rfl rfl (Nat.le_of_ble_eq_true rfl) ?_
  refine e_topi (nI k) h4 ?_
  refine e_iload_6 dL_law_2153 rfl ?_
  refine e_nc_eq_t (tgt := 2160) dL_law_2155 (by decide) (by omega) (by omega) rfl ?_
  refine e_iload_6 dL_law_2160 rfl ?_
  rcases Nat.eq_zero_or_pos k with hk0 | hk0
  · subst hk0
    have h2 := h2 rfl
    obtain ⟨hr, h2⟩ := h2
    refine e_if_ne_f dL_law_2162 rfl ⟨2197, by decide⟩ (by decide) ?_
    refine e_aload_4 dL_law_2165 rfl ?_
    refine e_iconst (v := nI 0) dL_law_2167 rfl ic_0 ?_
    refine e_dald dL_law_2168 rfl ps_85 (by decide) rfl (by omega) ?_
    refine e_dload_7 dL_law_2169 rfl ?_
    refine e_dcmp dL_law_2171 rfl ?_
    refine e_topi 0 (by rw [h2, fl_self hr]; rfl) ?_
    refine e_if_eq_t (tgt := 2197) dL_law_2172 (by decide) rfl ?_
    refine e_goto (tgt := 2200) dL_law_2197 (by decide) ?_
    refine e_weak (lo' := [some (.ref 1000), some (.ref 0), some (.ref 64), some (.ref 84), some (.ref 85), some (.int (nI (7 * j))), none, none, none]) (weak_c (weak_c (weak_c (weak_c (weak_c (weak_c (weak_n (weak_n (weak_n weak_nil))))))))) ?_
    refine e_wid (show _ ≤ u + 6 by omega) (show _ ≤ w + 36 by omega) ?_
    exact kk N h5
  · refine e_if_ne_t (tgt := 2197) dL_law_2162 (by decide) (nI_ne0 hk0 (by omega)) ?_
    refine e_goto (tgt := 2200) dL_law_2197 (by decide) ?_
    refine e_weak (lo' := [some (.ref 1000), some (.ref 0), some (.ref 64), some (.ref 84), some (.ref 85), some (.int (nI (7 * j))), none, none, none]) (weak_c (weak_c (weak_c (weak_c (weak_c (weak_c (weak_n (weak_n (weak_n weak_nil))))))))) ?_
    refine e_wid (show _ ≤ u + 6 by omega) (show _ ≤ w + 36 by omega) ?_
    exact kk N h5
