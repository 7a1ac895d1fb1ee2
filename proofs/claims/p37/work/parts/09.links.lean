/-! ===== keys, links, throws ===== -/
theorem sw_of {w : Cond} (i : Nat) (h : lw_tbl[i]? = some w) (hg : pmS w = true) : w ∈ sw := List.mem_filter.mpr ⟨List.mem_of_getElem? h, hg⟩
theorem th_in {L : List Cond} (h : L.all (fun w => decide (w ∈ lw_tbl) && (goodWord w || pmN w)) = true) : ∀ w ∈ L, w ∈ gw ∨ w ∈ nw := by
  intro w hw
  have h1 := List.all_eq_true.mp h w hw
  simp only [Bool.and_eq_true, Bool.or_eq_true, decide_eq_true_eq] at h1
  exact h1.2.elim (fun g => Or.inl (List.mem_filter.mpr ⟨h1.1, g⟩)) (fun g => Or.inr (List.mem_filter.mpr ⟨h1.1, g⟩))
theorem th_ot {L : List Cond} (h : L.all vx_ot = true) : ∀ w ∈ L, vx_ot w = true := fun w hw => List.all_eq_true.mp h w hw
def kX3_init : pmKey := (yX3_init, cX3_init, 2, none, [])
def kX2_init : pmKey := (yX2_init, cX2_init, 1, none, [])
def kX1_init : pmKey := (yX1_init, cX1_init, 1, none, [])
def kX0_init : pmKey := (yX0_init, cX0_init, 1, none, [])
def kX3_rules : pmKey := (yX3_rules, cX3_rules, 1, (some .int), [])
def kX3_day : pmKey := (yX3_day, cX3_day, 1, (some .int), [])
def kX3_accepted : pmKey := (yX3_accepted, cX3_accepted, 3, (some .int), [])
def kX3_decidedAt : pmKey := (yX3_decidedAt, cX3_decidedAt, 3, (some .int), [])
def kX1_lastsOn : pmKey := (yX1_lastsOn, cX1_lastsOn, 2, (some .boolean), [])
def kX3_inForceAhead : pmKey := (yX3_inForceAhead, cX3_inForceAhead, 4, (some .int), [])
def kX3_leftOfBoth : pmKey := (yX3_leftOfBoth, cX3_leftOfBoth, 4, (some .int), [])
def kX3_leftOver : pmKey := (yX3_leftOver, cX3_leftOver, 10, (some .int), [])
def kX3_firstOf : pmKey := (yX3_firstOf, cX3_firstOf, 2, (some .int), [])
def kJ6_bitCount_0f7a4 : pmKey := (yJ6_bitCount_0f7a4, cJ6_bitCount_0f7a4, 1, (some .int), [])
def kJ9_min_7cf53 : pmKey := (yJ9_min_7cf53, cJ9_min_7cf53, 2, (some .int), [])
def kX3_packetsIn : pmKey := (yX3_packetsIn, cX3_packetsIn, 3, (some .int), [])
def kX3_sortByHits : pmKey := (yX3_sortByHits, cX3_sortByHits, 4, (some .int), [])
def kX3_swapByHits : pmKey := (yX3_swapByHits, cX3_swapByHits, 3, (some .int), [])
def kX3_changedByShift : pmKey := (yX3_changedByShift, cX3_changedByShift, 3, (some .int), [])
def kX3_changedAgainst : pmKey := (yX3_changedAgainst, cX3_changedAgainst, 8, (some .int), [])
def kX3_shift : pmKey := (yX3_shift, cX3_shift, 5, none, [])
def kL_cell : pmKey := (yL_cell, cL_cell, 2, (some .int), [])
def kL_low : pmKey := (yL_low, cL_low, 2, (some .int), [])
def kL_call : pmKey := (yL_call, cL_call, 6, (some .int), [(0, 124, 324, 99), (125, 133, 324, 99), (134, 139, 324, 99), (140, 146, 324, 99), (147, 153, 324, 99), (154, 159, 324, 99), (160, 174, 324, 99), (175, 180, 324, 99), (181, 186, 324, 99), (187, 193, 324, 99), (194, 199, 324, 99), (200, 213, 324, 99), (214, 220, 324, 99), (221, 229, 324, 99), (230, 238, 324, 99), (239, 244, 324, 99), (245, 250, 324, 99), (251, 256, 324, 99), (257, 262, 324, 99), (263, 268, 324, 99), (269, 274, 324, 99), (275, 280, 324, 99), (281, 294, 324, 99), (295, 300, 324, 99), (301, 307, 324, 99), (308, 314, 324, 99), (315, 323, 324, 99), (0, 124, 329, 101), (125, 133, 329, 101), (134, 139, 329, 101), (140, 146, 329, 101), (147, 153, 329, 101), (154, 159, 329, 101), (160, 174, 329, 101), (175, 180, 329, 101), (181, 186, 329, 101), (187, 193, 329, 101), (194, 199, 329, 101), (200, 213, 329, 101), (214, 220, 329, 101), (221, 229, 329, 101), (230, 238, 329, 101), (239, 244, 329, 101), (245, 250, 329, 101), (251, 256, 329, 101), (257, 262, 329, 101), (263, 268, 329, 101), (269, 274, 329, 101), (275, 280, 329, 101), (281, 294, 329, 101), (295, 300, 329, 101), (301, 307, 329, 101), (308, 314, 329, 101), (315, 323, 329, 101), (0, 124, 334, 103), (125, 133, 334, 103), (134, 139, 334, 103), (140, 146, 334, 103), (147, 153, 334, 103), (154, 159, 334, 103), (160, 174, 334, 103), (175, 180, 334, 103), (181, 186, 334, 103), (187, 193, 334, 103), (194, 199, 334, 103), (200, 213, 334, 103), (214, 220, 334, 103), (221, 229, 334, 103), (230, 238, 334, 103), (239, 244, 334, 103), (245, 250, 334, 103), (251, 256, 334, 103), (257, 262, 334, 103), (263, 268, 334, 103), (269, 274, 334, 103), (275, 280, 334, 103), (281, 294, 334, 103), (295, 300, 334, 103), (301, 307, 334, 103), (308, 314, 334, 103), (315, 323, 334, 103), (0, 124, 339, 105), (125, 133, 339, 105), (134, 139, 339, 105), (140, 146, 339, 105), (147, 153, 339, 105), (154, 159, 339, 105), (160, 174, 339, 105), (175, 180, 339, 105), (181, 186, 339, 105), (187, 193, 339, 105), (194, 199, 339, 105), (200, 213, 339, 105), (214, 220, 339, 105), (221, 229, 339, 105), (230, 238, 339, 105), (239, 244, 339, 105), (245, 250, 339, 105), (251, 256, 339, 105), (257, 262, 339, 105), (263, 268, 339, 105), (269, 274, 339, 105), (275, 280, 339, 105), (281, 294, 339, 105), (295, 300, 339, 105), (301, 307, 339, 105), (308, 314, 339, 105), (315, 323, 339, 105), (0, 124, 344, 107), (125, 133, 344, 107), (134, 139, 344, 107), (140, 146, 344, 107), (147, 153, 344, 107), (154, 159, 344, 107), (160, 174, 344, 107), (175, 180, 344, 107), (181, 186, 344, 107), (187, 193, 344, 107), (194, 199, 344, 107), (200, 213, 344, 107), (214, 220, 344, 107), (221, 229, 344, 107), (230, 238, 344, 107), (239, 244, 344, 107), (245, 250, 344, 107), (251, 256, 344, 107), (257, 262, 344, 107), (263, 268, 344, 107), (269, 274, 344, 107), (275, 280, 344, 107), (281, 294, 344, 107), (295, 300, 344, 107), (301, 307, 344, 107), (308, 314, 344, 107), (315, 323, 344, 107)])
def kJx00060_init_a7421 : pmKey := (yJx00060_init_a7421, cJx00060_init_a7421, 2, none, [])
def kX3_addObject : pmKey := (yX3_addObject, cX3_addObject, 1, (some .int), [])
def kX3_addRange : pmKey := (yX3_addRange, cX3_addRange, 5, (some .int), [])
def kX3_requireObject : pmKey := (yX3_requireObject, cX3_requireObject, 2, none, [])
def kX3_requireRange : pmKey := (yX3_requireRange, cX3_requireRange, 2, none, [])
def kX3_requireValue : pmKey := (yX3_requireValue, cX3_requireValue, 1, none, [])
def kX3_rangeOf : pmKey := (yX3_rangeOf, cX3_rangeOf, 2, (some .int), [])
def kX3_updateMatching : pmKey := (yX3_updateMatching, cX3_updateMatching, 5, none, [])
def kX3_valuesOf : pmKey := (yX3_valuesOf, cX3_valuesOf, 5, (some .int), [])
def kX2_ownValues : pmKey := (yX2_ownValues, cX2_ownValues, 3, (some .int), [])
def kX3_contains : pmKey := (yX3_contains, cX3_contains, 2, (some .boolean), [])
def kX3_removeRange : pmKey := (yX3_removeRange, cX3_removeRange, 3, (some .int), [])
def kX3_addMember : pmKey := (yX3_addMember, cX3_addMember, 4, (some .int), [])
def kX3_needs : pmKey := (yX3_needs, cX3_needs, 6, (some .boolean), [])
def kX3_removeMember : pmKey := (yX3_removeMember, cX3_removeMember, 4, (some .int), [])
def kX3_values : pmKey := (yX3_values, cX3_values, 2, (some .int), [])
def kX3_hasValue : pmKey := (yX3_hasValue, cX3_hasValue, 3, (some .boolean), [])
def kX3_users : pmKey := (yX3_users, cX3_users, 5, (some .int), [])
def kX3_isOrNeeds : pmKey := (yX3_isOrNeeds, cX3_isOrNeeds, 3, (some .boolean), [])
def kX3_removeRule : pmKey := (yX3_removeRule, cX3_removeRule, 4, (some .int), [])
def kX3_requireRule : pmKey := (yX3_requireRule, cX3_requireRule, 3, (some .int), [])
def kX3_changedByRemoval : pmKey := (yX3_changedByRemoval, cX3_changedByRemoval, 5, (some .int), [])
def kX3_setLastDay : pmKey := (yX3_setLastDay, cX3_setLastDay, 5, (some .int), [])
def kX3_ruleAt : pmKey := (yX3_ruleAt, cX3_ruleAt, 2, (some .int), [])
def kX3_requirePosition : pmKey := (yX3_requirePosition, cX3_requirePosition, 2, none, [])
def kX3_isInForce : pmKey := (yX3_isInForce, cX3_isInForce, 2, (some .boolean), [])
def kX3_expiring : pmKey := (yX3_expiring, cX3_expiring, 6, (some .int), [])
def kX3_requireOwner : pmKey := (yX3_requireOwner, cX3_requireOwner, 1, none, [])
def kX3_requireDays : pmKey := (yX3_requireDays, cX3_requireDays, 1, none, [])
def kX3_packet : pmKey := (yX3_packet, cX3_packet, 6, (some .char), [])
def kX3_requirePacket : pmKey := (yX3_requirePacket, cX3_requirePacket, 3, none, [])
def kX3_deciding : pmKey := (yX3_deciding, cX3_deciding, 5, (some .int), [])
def kX1_matches : pmKey := (yX1_matches, cX1_matches, 4, (some .boolean), [])
def kX1_hitOn : pmKey := (yX1_hitOn, cX1_hitOn, 2, none, [])
def kX3_decider : pmKey := (yX3_decider, cX3_decider, 5, (some .int), [])
def kX3_hits : pmKey := (yX3_hits, cX3_hits, 2, (some .int), [])
def kX3_busyDays : pmKey := (yX3_busyDays, cX3_busyDays, 2, (some .int), [])
def kX3_idleDays : pmKey := (yX3_idleDays, cX3_idleDays, 3, (some .int), [])
def kX3_pass : pmKey := (yX3_pass, cX3_pass, 2, (some .int), [])
def kX3_matched : pmKey := (yX3_matched, cX3_matched, 3, (some .int), [])
def kX3_packetsInBoth : pmKey := (yX3_packetsInBoth, cX3_packetsInBoth, 2, (some .int), [])
def kX3_decided : pmKey := (yX3_decided, cX3_decided, 2, (some .int), [])
def kX3_decidedBySamples : pmKey := (yX3_decidedBySamples, cX3_decidedBySamples, 3, (some .int), [])
def kX3_tallyDeciders : pmKey := (yX3_tallyDeciders, cX3_tallyDeciders, 8, none, [])
def kJ7_fill_53178 : pmKey := (yJ7_fill_53178, cJ7_fill_53178, 4, none, [])
def kX3_markValues : pmKey := (yX3_markValues, cX3_markValues, 9, none, [])
def kX3_groupValues : pmKey := (yX3_groupValues, cX3_groupValues, 3, none, [])
def kX0_put : pmKey := (yX0_put, cX0_put, 3, none, [])
def kX3_tallyServices : pmKey := (yX3_tallyServices, cX3_tallyServices, 8, none, [])
def kX3_isShadowed : pmKey := (yX3_isShadowed, cX3_isShadowed, 2, (some .boolean), [])
def kX3_isShadowedAt : pmKey := (yX3_isShadowedAt, cX3_isShadowedAt, 2, (some .boolean), [])
def kX3_mainShadow : pmKey := (yX3_mainShadow, cX3_mainShadow, 7, (some .int), [])
def kX3_changedByMove : pmKey := (yX3_changedByMove, cX3_changedByMove, 4, (some .int), [])
def kX3_move : pmKey := (yX3_move, cX3_move, 4, (some .int), [])
def kX3_changedByRange : pmKey := (yX3_changedByRange, cX3_changedByRange, 7, (some .int), [])
def kX3_actionOf : pmKey := (yX3_actionOf, cX3_actionOf, 2, (some .char), [])
def kL_addRule : pmKey := (yL_addRule, cL_addRule, 8, (some .int), [(0, 13, 14, 99), (0, 13, 19, 101), (0, 13, 24, 103)])
def kX3_addRule : pmKey := (yX3_addRule, cX3_addRule, 8, (some .int), [])
def kX3_requireObjectOrNone : pmKey := (yX3_requireObjectOrNone, cX3_requireObjectOrNone, 2, none, [])
def kX1_begin : pmKey := (yX1_begin, cX1_begin, 5, none, [])
def kL_state : pmKey := (yL_state, cL_state, 6, (some .long), [])
def kL_sound : pmKey := (yL_sound, cL_sound, 11, (some .boolean), [])
def kX3_shadowedShare : pmKey := (yX3_shadowedShare, cX3_shadowedShare, 4, (some .float), [])
def kX3_meanHits : pmKey := (yX3_meanHits, cX3_meanHits, 3, (some .double), [])
def kJ9_abs_0f7a4 : pmKey := (yJ9_abs_0f7a4, cJ9_abs_0f7a4, 1, (some .int), [])
theorem lkX2_9 : pmLk RX2 9 2 0 false := ⟨_, _, _, rfl, by decide, Or.inr rfl, Or.inl (gw_of 68 (by decide +kernel) rfl)⟩
theorem lkX3_63 : pmLk RX3 63 2 0 false := ⟨_, _, _, rfl, by decide, Or.inr rfl, Or.inr ⟨"FilterRules", nw_of 69 (by decide +kernel) rfl⟩⟩
theorem lkX2_15 : pmLk RX2 15 2 1 true := ⟨_, _, _, rfl, by decide, Or.inl rfl, Or.inl (gw_of 70 (by decide +kernel) rfl)⟩
theorem lkX3_58 : pmLk RX3 58 2 1 true := ⟨_, _, _, rfl, by decide, Or.inl rfl, Or.inr ⟨"FilterRules", nw_of 71 (by decide +kernel) rfl⟩⟩
theorem lkX3_75 : pmLk RX3 75 2 2 true := ⟨_, _, _, rfl, by decide, Or.inl rfl, Or.inr ⟨"FilterRules", nw_of 72 (by decide +kernel) rfl⟩⟩
theorem lkX1_18 : pmLk RX1 18 1 0 true := ⟨_, _, _, rfl, by decide, Or.inl rfl, Or.inl (gw_of 86 (by decide +kernel) rfl)⟩
theorem lkX3_153 : pmLk RX3 153 1 0 true := ⟨_, _, _, rfl, by decide, Or.inl rfl, Or.inr ⟨"FilterRules", nw_of 87 (by decide +kernel) rfl⟩⟩
theorem lkX1_22 : pmLk RX1 22 1 1 true := ⟨_, _, _, rfl, by decide, Or.inl rfl, Or.inl (gw_of 88 (by decide +kernel) rfl)⟩
theorem lkX3_191 : pmLk RX3 191 1 1 true := ⟨_, _, _, rfl, by decide, Or.inl rfl, Or.inr ⟨"FilterRules", nw_of 89 (by decide +kernel) rfl⟩⟩
theorem lkX1_26 : pmLk RX1 26 1 2 true := ⟨_, _, _, rfl, by decide, Or.inl rfl, Or.inl (gw_of 90 (by decide +kernel) rfl)⟩
theorem lkX3_177 : pmLk RX3 177 1 2 true := ⟨_, _, _, rfl, by decide, Or.inl rfl, Or.inr ⟨"FilterRules", nw_of 91 (by decide +kernel) rfl⟩⟩
theorem lkX1_29 : pmLk RX1 29 1 3 true := ⟨_, _, _, rfl, by decide, Or.inl rfl, Or.inl (gw_of 92 (by decide +kernel) rfl)⟩
theorem lkX3_164 : pmLk RX3 164 1 3 true := ⟨_, _, _, rfl, by decide, Or.inl rfl, Or.inr ⟨"FilterRules", nw_of 93 (by decide +kernel) rfl⟩⟩
theorem lkX1_32 : pmLk RX1 32 1 4 true := ⟨_, _, _, rfl, by decide, Or.inl rfl, Or.inl (gw_of 94 (by decide +kernel) rfl)⟩
theorem lkX3_204 : pmLk RX3 204 1 4 true := ⟨_, _, _, rfl, by decide, Or.inl rfl, Or.inr ⟨"FilterRules", nw_of 95 (by decide +kernel) rfl⟩⟩
theorem lkX1_35 : pmLk RX1 35 1 5 true := ⟨_, _, _, rfl, by decide, Or.inl rfl, Or.inl (gw_of 96 (by decide +kernel) rfl)⟩
theorem lkX3_195 : pmLk RX3 195 1 5 true := ⟨_, _, _, rfl, by decide, Or.inl rfl, Or.inr ⟨"FilterRules", nw_of 97 (by decide +kernel) rfl⟩⟩
theorem lkX1_38 : pmLk RX1 38 1 6 true := ⟨_, _, _, rfl, by decide, Or.inl rfl, Or.inl (gw_of 98 (by decide +kernel) rfl)⟩
theorem lkX3_198 : pmLk RX3 198 1 6 true := ⟨_, _, _, rfl, by decide, Or.inl rfl, Or.inr ⟨"FilterRules", nw_of 99 (by decide +kernel) rfl⟩⟩
theorem lkX1_41 : pmLk RX1 41 1 7 true := ⟨_, _, _, rfl, by decide, Or.inl rfl, Or.inl (gw_of 100 (by decide +kernel) rfl)⟩
theorem lkX3_201 : pmLk RX3 201 1 7 true := ⟨_, _, _, rfl, by decide, Or.inl rfl, Or.inr ⟨"FilterRules", nw_of 101 (by decide +kernel) rfl⟩⟩
theorem lkX1_9 : pmLk RX1 9 1 8 false := ⟨_, _, _, rfl, by decide, Or.inr rfl, Or.inl (gw_of 102 (by decide +kernel) rfl)⟩
theorem lkX3_119 : pmLk RX3 119 1 8 false := ⟨_, _, _, rfl, by decide, Or.inr rfl, Or.inr ⟨"FilterRules", nw_of 103 (by decide +kernel) rfl⟩⟩
theorem lkX1_15 : pmLk RX1 15 1 9 false := ⟨_, _, _, rfl, by decide, Or.inr rfl, Or.inl (gw_of 104 (by decide +kernel) rfl)⟩
theorem lkX3_262 : pmLk RX3 262 1 9 false := ⟨_, _, _, rfl, by decide, Or.inr rfl, Or.inr ⟨"FilterRules", nw_of 105 (by decide +kernel) rfl⟩⟩
theorem lkX0_9 : pmLk RX0 9 0 0 false := ⟨_, _, _, rfl, by decide, Or.inr rfl, Or.inl (gw_of 132 (by decide +kernel) rfl)⟩
theorem lkX3_304 : pmLk RX3 304 0 0 false := ⟨_, _, _, rfl, by decide, Or.inr rfl, Or.inr ⟨"FilterRules", nw_of 133 (by decide +kernel) rfl⟩⟩
theorem lkX0_15 : pmLk RX0 15 0 1 false := ⟨_, _, _, rfl, by decide, Or.inr rfl, Or.inl (gw_of 134 (by decide +kernel) rfl)⟩
theorem lkX3_307 : pmLk RX3 307 0 1 false := ⟨_, _, _, rfl, by decide, Or.inr rfl, Or.inr ⟨"FilterRules", nw_of 135 (by decide +kernel) rfl⟩⟩
theorem lkX0_18 : pmLk RX0 18 0 2 true := ⟨_, _, _, rfl, by decide, Or.inl rfl, Or.inl (gw_of 136 (by decide +kernel) rfl)⟩
theorem lkX3_301 : pmLk RX3 301 0 2 true := ⟨_, _, _, rfl, by decide, Or.inl rfl, Or.inr ⟨"FilterRules", nw_of 137 (by decide +kernel) rfl⟩⟩
theorem lkX3_11 : pmLk RX3 11 3 0 false := ⟨_, _, _, rfl, by decide, Or.inr rfl, Or.inl (gw_of 145 (by decide +kernel) rfl)⟩
theorem lkX3_39 : pmLk RX3 39 3 1 true := ⟨_, _, _, rfl, by decide, Or.inl rfl, Or.inl (gw_of 146 (by decide +kernel) rfl)⟩
theorem lkX3_17 : pmLk RX3 17 3 2 false := ⟨_, _, _, rfl, by decide, Or.inr rfl, Or.inl (gw_of 147 (by decide +kernel) rfl)⟩
theorem lkX3_116 : pmLk RX3 116 3 3 true := ⟨_, _, _, rfl, by decide, Or.inl rfl, Or.inl (gw_of 148 (by decide +kernel) rfl)⟩
theorem lkX3_140 : pmLk RX3 140 3 4 true := ⟨_, _, _, rfl, by decide, Or.inl rfl, Or.inl (gw_of 149 (by decide +kernel) rfl)⟩
theorem lkX3_143 : pmLk RX3 143 3 5 true := ⟨_, _, _, rfl, by decide, Or.inl rfl, Or.inl (gw_of 150 (by decide +kernel) rfl)⟩
theorem lkX3_23 : pmLk RX3 23 3 6 false := ⟨_, _, _, rfl, by decide, Or.inr rfl, Or.inl (gw_of 151 (by decide +kernel) rfl)⟩
theorem lkX3_27 : pmLk RX3 27 3 7 false := ⟨_, _, _, rfl, by decide, Or.inr rfl, Or.inl (gw_of 152 (by decide +kernel) rfl)⟩
theorem lkX3_33 : pmLk RX3 33 3 8 false := ⟨_, _, _, rfl, by decide, Or.inr rfl, Or.inl (gw_of 153 (by decide +kernel) rfl)⟩
theorem csL_123 : pmCv RL 123 kX3_rules 0 3 := ⟨gw_of 173 (by decide +kernel) rfl, gw_of 174 (by decide +kernel) rfl, gw_of 175 (by decide +kernel) rfl, gw_of 29 (by decide +kernel) rfl, gw_of 176 (by decide +kernel) rfl, ⟨by decide +kernel, by decide +kernel, by decide +kernel⟩, _, _, rfl⟩
theorem csL_126 : pmCv RL 126 kX3_day 0 3 := ⟨gw_of 177 (by decide +kernel) rfl, gw_of 178 (by decide +kernel) rfl, gw_of 179 (by decide +kernel) rfl, gw_of 29 (by decide +kernel) rfl, gw_of 180 (by decide +kernel) rfl, ⟨by decide +kernel, by decide +kernel, by decide +kernel⟩, _, _, rfl⟩
theorem csL_133 : pmCv RL 133 kX3_accepted 0 3 := ⟨gw_of 181 (by decide +kernel) rfl, gw_of 182 (by decide +kernel) rfl, gw_of 183 (by decide +kernel) rfl, gw_of 29 (by decide +kernel) rfl, gw_of 184 (by decide +kernel) rfl, ⟨by decide +kernel, by decide +kernel, by decide +kernel⟩, _, _, rfl⟩
theorem csX3_213 : pmCv RX3 213 kX3_decidedAt 1 3 := ⟨gw_of 185 (by decide +kernel) rfl, gw_of 187 (by decide +kernel) rfl, gw_of 0 (by decide +kernel) rfl, gw_of 29 (by decide +kernel) rfl, gw_of 188 (by decide +kernel) rfl, ⟨by decide +kernel, by decide +kernel, by decide +kernel⟩, _, _, rfl⟩
theorem csX3_170 : pmCn RX3 170 kX1_lastsOn 1 1 := ⟨⟨"FilterRules", nw_of 189 (by decide +kernel) rfl⟩, gw_of 191 (by decide +kernel) rfl, gw_of 1 (by decide +kernel) rfl, gw_of 31 (by decide +kernel) rfl, gw_of 192 (by decide +kernel) rfl, ⟨by decide +kernel, by decide +kernel, by decide +kernel⟩, _, _, rfl⟩
theorem csX3_237 : pmCv RX3 237 kX3_inForceAhead 1 3 := ⟨gw_of 193 (by decide +kernel) rfl, gw_of 195 (by decide +kernel) rfl, gw_of 2 (by decide +kernel) rfl, gw_of 29 (by decide +kernel) rfl, gw_of 196 (by decide +kernel) rfl, ⟨by decide +kernel, by decide +kernel, by decide +kernel⟩, _, _, rfl⟩
theorem csX3_284 : pmCv RX3 284 kX3_leftOfBoth 3 3 := ⟨gw_of 197 (by decide +kernel) rfl, gw_of 199 (by decide +kernel) rfl, gw_of 3 (by decide +kernel) rfl, gw_of 29 (by decide +kernel) rfl, gw_of 200 (by decide +kernel) rfl, ⟨by decide +kernel, by decide +kernel, by decide +kernel⟩, _, _, rfl⟩
theorem csX3_277 : pmCs RX3 277 kX3_leftOver 5 := ⟨gw_of 201 (by decide +kernel) rfl, gw_of 202 (by decide +kernel) rfl, gw_of 29 (by decide +kernel) rfl, gw_of 203 (by decide +kernel) rfl, ⟨by decide +kernel, by decide +kernel, by decide +kernel⟩⟩
theorem csX3_281 : pmCs RX3 281 kX3_firstOf 1 := ⟨gw_of 204 (by decide +kernel) rfl, gw_of 205 (by decide +kernel) rfl, gw_of 29 (by decide +kernel) rfl, gw_of 206 (by decide +kernel) rfl, ⟨by decide +kernel, by decide +kernel, by decide +kernel⟩⟩
theorem csX3_96 : pmCs RX3 96 kJ6_bitCount_0f7a4 1 := ⟨gw_of 207 (by decide +kernel) rfl, gw_of 208 (by decide +kernel) rfl, gw_of 42 (by decide +kernel) rfl, gw_of 209 (by decide +kernel) rfl, ⟨by decide +kernel, by decide +kernel, by decide +kernel⟩⟩
theorem csX3_272 : pmCs RX3 272 kJ9_min_7cf53 2 := ⟨gw_of 213 (by decide +kernel) rfl, gw_of 214 (by decide +kernel) rfl, gw_of 44 (by decide +kernel) rfl, gw_of 215 (by decide +kernel) rfl, ⟨by decide +kernel, by decide +kernel, by decide +kernel⟩⟩
theorem csX3_269 : pmCs RX3 269 kX3_packetsIn 3 := ⟨gw_of 216 (by decide +kernel) rfl, gw_of 217 (by decide +kernel) rfl, gw_of 29 (by decide +kernel) rfl, gw_of 218 (by decide +kernel) rfl, ⟨by decide +kernel, by decide +kernel, by decide +kernel⟩⟩
theorem csL_145 : pmCv RL 145 kX3_sortByHits 0 3 := ⟨gw_of 219 (by decide +kernel) rfl, gw_of 220 (by decide +kernel) rfl, gw_of 221 (by decide +kernel) rfl, gw_of 29 (by decide +kernel) rfl, gw_of 222 (by decide +kernel) rfl, ⟨by decide +kernel, by decide +kernel, by decide +kernel⟩, _, _, rfl⟩
theorem csX3_229 : pmCv RX3 229 kX3_swapByHits 0 3 := ⟨gw_of 223 (by decide +kernel) rfl, gw_of 225 (by decide +kernel) rfl, gw_of 4 (by decide +kernel) rfl, gw_of 29 (by decide +kernel) rfl, gw_of 226 (by decide +kernel) rfl, ⟨by decide +kernel, by decide +kernel, by decide +kernel⟩, _, _, rfl⟩
theorem csX3_224 : pmCv RX3 224 kX3_changedByShift 2 3 := ⟨gw_of 227 (by decide +kernel) rfl, gw_of 229 (by decide +kernel) rfl, gw_of 5 (by decide +kernel) rfl, gw_of 29 (by decide +kernel) rfl, gw_of 230 (by decide +kernel) rfl, ⟨by decide +kernel, by decide +kernel, by decide +kernel⟩, _, _, rfl⟩
theorem csX3_316 : pmCv RX3 316 kX3_changedAgainst 3 3 := ⟨gw_of 231 (by decide +kernel) rfl, gw_of 233 (by decide +kernel) rfl, gw_of 6 (by decide +kernel) rfl, gw_of 29 (by decide +kernel) rfl, gw_of 234 (by decide +kernel) rfl, ⟨by decide +kernel, by decide +kernel, by decide +kernel⟩, _, _, rfl⟩
theorem csX3_150 : pmCv RX3 150 kX3_shift 2 3 := ⟨gw_of 235 (by decide +kernel) rfl, gw_of 237 (by decide +kernel) rfl, gw_of 7 (by decide +kernel) rfl, gw_of 29 (by decide +kernel) rfl, gw_of 238 (by decide +kernel) rfl, ⟨by decide +kernel, by decide +kernel, by decide +kernel⟩, _, _, rfl⟩
theorem csL_148 : pmCs RL 148 kL_cell 2 := ⟨gw_of 239 (by decide +kernel) rfl, gw_of 240 (by decide +kernel) rfl, gw_of 28 (by decide +kernel) rfl, gw_of 241 (by decide +kernel) rfl, ⟨by decide +kernel, by decide +kernel, by decide +kernel⟩⟩
theorem csL_129 : pmCs RL 129 kL_low 2 := ⟨gw_of 243 (by decide +kernel) rfl, gw_of 244 (by decide +kernel) rfl, gw_of 28 (by decide +kernel) rfl, gw_of 245 (by decide +kernel) rfl, ⟨by decide +kernel, by decide +kernel, by decide +kernel⟩⟩
theorem csL_117 : pmCw RL 117 kL_call 5 := ⟨gw_of 247 (by decide +kernel) rfl, gw_of 248 (by decide +kernel) rfl, gw_of 28 (by decide +kernel) rfl, gw_of 249 (by decide +kernel) rfl, ⟨by decide +kernel, by decide +kernel, by decide +kernel⟩⟩
theorem csL_9 : pmCv RL 9 kX3_addObject 0 3 := ⟨gw_of 334 (by decide +kernel) rfl, gw_of 335 (by decide +kernel) rfl, gw_of 336 (by decide +kernel) rfl, gw_of 29 (by decide +kernel) rfl, gw_of 337 (by decide +kernel) rfl, ⟨by decide +kernel, by decide +kernel, by decide +kernel⟩, _, _, rfl⟩
theorem csL_15 : pmCv RL 15 kX3_addRange 3 3 := ⟨gw_of 354 (by decide +kernel) rfl, gw_of 355 (by decide +kernel) rfl, gw_of 356 (by decide +kernel) rfl, gw_of 29 (by decide +kernel) rfl, gw_of 357 (by decide +kernel) rfl, ⟨by decide +kernel, by decide +kernel, by decide +kernel⟩, _, _, rfl⟩
theorem csX3_50 : pmCv RX3 50 kX3_requireObject 1 3 := ⟨gw_of 358 (by decide +kernel) rfl, gw_of 360 (by decide +kernel) rfl, gw_of 9 (by decide +kernel) rfl, gw_of 29 (by decide +kernel) rfl, gw_of 361 (by decide +kernel) rfl, ⟨by decide +kernel, by decide +kernel, by decide +kernel⟩, _, _, rfl⟩
theorem csX3_54 : pmCs RX3 54 kX3_requireRange 2 := ⟨gw_of 375 (by decide +kernel) rfl, gw_of 376 (by decide +kernel) rfl, gw_of 29 (by decide +kernel) rfl, gw_of 377 (by decide +kernel) rfl, ⟨by decide +kernel, by decide +kernel, by decide +kernel⟩⟩
theorem csX3_113 : pmCs RX3 113 kX3_requireValue 1 := ⟨gw_of 378 (by decide +kernel) rfl, gw_of 379 (by decide +kernel) rfl, gw_of 29 (by decide +kernel) rfl, gw_of 380 (by decide +kernel) rfl, ⟨by decide +kernel, by decide +kernel, by decide +kernel⟩⟩
theorem csX3_66 : pmCs RX3 66 kX3_rangeOf 2 := ⟨gw_of 399 (by decide +kernel) rfl, gw_of 400 (by decide +kernel) rfl, gw_of 29 (by decide +kernel) rfl, gw_of 401 (by decide +kernel) rfl, ⟨by decide +kernel, by decide +kernel, by decide +kernel⟩⟩
theorem csX3_70 : pmCv RX3 70 kX3_updateMatching 0 3 := ⟨gw_of 402 (by decide +kernel) rfl, gw_of 404 (by decide +kernel) rfl, gw_of 10 (by decide +kernel) rfl, gw_of 29 (by decide +kernel) rfl, gw_of 405 (by decide +kernel) rfl, ⟨by decide +kernel, by decide +kernel, by decide +kernel⟩, _, _, rfl⟩
theorem csX3_109 : pmCs RX3 109 kX3_valuesOf 3 := ⟨gw_of 406 (by decide +kernel) rfl, gw_of 407 (by decide +kernel) rfl, gw_of 29 (by decide +kernel) rfl, gw_of 408 (by decide +kernel) rfl, ⟨by decide +kernel, by decide +kernel, by decide +kernel⟩⟩
theorem csX3_259 : pmCn RX3 259 kX2_ownValues 0 2 := ⟨⟨"FilterRules", nw_of 409 (by decide +kernel) rfl⟩, gw_of 411 (by decide +kernel) rfl, gw_of 11 (by decide +kernel) rfl, gw_of 30 (by decide +kernel) rfl, gw_of 412 (by decide +kernel) rfl, ⟨by decide +kernel, by decide +kernel, by decide +kernel⟩, _, _, rfl⟩
theorem csX3_78 : pmCs RX3 78 kX3_contains 2 := ⟨gw_of 413 (by decide +kernel) rfl, gw_of 414 (by decide +kernel) rfl, gw_of 29 (by decide +kernel) rfl, gw_of 415 (by decide +kernel) rfl, ⟨by decide +kernel, by decide +kernel, by decide +kernel⟩⟩
theorem csL_19 : pmCv RL 19 kX3_removeRange 1 3 := ⟨gw_of 416 (by decide +kernel) rfl, gw_of 417 (by decide +kernel) rfl, gw_of 418 (by decide +kernel) rfl, gw_of 29 (by decide +kernel) rfl, gw_of 419 (by decide +kernel) rfl, ⟨by decide +kernel, by decide +kernel, by decide +kernel⟩, _, _, rfl⟩
theorem csL_23 : pmCv RL 23 kX3_addMember 2 3 := ⟨gw_of 421 (by decide +kernel) rfl, gw_of 422 (by decide +kernel) rfl, gw_of 423 (by decide +kernel) rfl, gw_of 29 (by decide +kernel) rfl, gw_of 424 (by decide +kernel) rfl, ⟨by decide +kernel, by decide +kernel, by decide +kernel⟩, _, _, rfl⟩
theorem csX3_87 : pmCs RX3 87 kX3_needs 4 := ⟨gw_of 426 (by decide +kernel) rfl, gw_of 427 (by decide +kernel) rfl, gw_of 29 (by decide +kernel) rfl, gw_of 428 (by decide +kernel) rfl, ⟨by decide +kernel, by decide +kernel, by decide +kernel⟩⟩
theorem csL_27 : pmCv RL 27 kX3_removeMember 2 3 := ⟨gw_of 446 (by decide +kernel) rfl, gw_of 447 (by decide +kernel) rfl, gw_of 448 (by decide +kernel) rfl, gw_of 29 (by decide +kernel) rfl, gw_of 449 (by decide +kernel) rfl, ⟨by decide +kernel, by decide +kernel, by decide +kernel⟩, _, _, rfl⟩
theorem csL_30 : pmCv RL 30 kX3_values 1 3 := ⟨gw_of 466 (by decide +kernel) rfl, gw_of 467 (by decide +kernel) rfl, gw_of 468 (by decide +kernel) rfl, gw_of 29 (by decide +kernel) rfl, gw_of 469 (by decide +kernel) rfl, ⟨by decide +kernel, by decide +kernel, by decide +kernel⟩, _, _, rfl⟩
theorem csL_33 : pmCv RL 33 kX3_hasValue 2 3 := ⟨gw_of 470 (by decide +kernel) rfl, gw_of 471 (by decide +kernel) rfl, gw_of 472 (by decide +kernel) rfl, gw_of 29 (by decide +kernel) rfl, gw_of 473 (by decide +kernel) rfl, ⟨by decide +kernel, by decide +kernel, by decide +kernel⟩, _, _, rfl⟩
theorem csL_37 : pmCv RL 37 kX3_users 1 3 := ⟨gw_of 474 (by decide +kernel) rfl, gw_of 475 (by decide +kernel) rfl, gw_of 476 (by decide +kernel) rfl, gw_of 29 (by decide +kernel) rfl, gw_of 477 (by decide +kernel) rfl, ⟨by decide +kernel, by decide +kernel, by decide +kernel⟩, _, _, rfl⟩
theorem csX3_122 : pmCv RX3 122 kX3_isOrNeeds 2 3 := ⟨gw_of 478 (by decide +kernel) rfl, gw_of 480 (by decide +kernel) rfl, gw_of 12 (by decide +kernel) rfl, gw_of 29 (by decide +kernel) rfl, gw_of 481 (by decide +kernel) rfl, ⟨by decide +kernel, by decide +kernel, by decide +kernel⟩, _, _, rfl⟩
theorem csL_40 : pmCv RL 40 kX3_removeRule 1 3 := ⟨gw_of 482 (by decide +kernel) rfl, gw_of 483 (by decide +kernel) rfl, gw_of 484 (by decide +kernel) rfl, gw_of 29 (by decide +kernel) rfl, gw_of 485 (by decide +kernel) rfl, ⟨by decide +kernel, by decide +kernel, by decide +kernel⟩, _, _, rfl⟩
theorem csX3_156 : pmCv RX3 156 kX3_requireRule 1 3 := ⟨gw_of 486 (by decide +kernel) rfl, gw_of 488 (by decide +kernel) rfl, gw_of 13 (by decide +kernel) rfl, gw_of 29 (by decide +kernel) rfl, gw_of 489 (by decide +kernel) rfl, ⟨by decide +kernel, by decide +kernel, by decide +kernel⟩, _, _, rfl⟩
theorem csX3_159 : pmCv RX3 159 kX3_changedByRemoval 1 3 := ⟨gw_of 491 (by decide +kernel) rfl, gw_of 493 (by decide +kernel) rfl, gw_of 14 (by decide +kernel) rfl, gw_of 29 (by decide +kernel) rfl, gw_of 494 (by decide +kernel) rfl, ⟨by decide +kernel, by decide +kernel, by decide +kernel⟩, _, _, rfl⟩
theorem csL_43 : pmCv RL 43 kX3_setLastDay 2 3 := ⟨gw_of 495 (by decide +kernel) rfl, gw_of 496 (by decide +kernel) rfl, gw_of 497 (by decide +kernel) rfl, gw_of 29 (by decide +kernel) rfl, gw_of 498 (by decide +kernel) rfl, ⟨by decide +kernel, by decide +kernel, by decide +kernel⟩, _, _, rfl⟩
theorem csL_46 : pmCv RL 46 kX3_ruleAt 1 3 := ⟨gw_of 500 (by decide +kernel) rfl, gw_of 501 (by decide +kernel) rfl, gw_of 502 (by decide +kernel) rfl, gw_of 29 (by decide +kernel) rfl, gw_of 503 (by decide +kernel) rfl, ⟨by decide +kernel, by decide +kernel, by decide +kernel⟩, _, _, rfl⟩
theorem csX3_167 : pmCv RX3 167 kX3_requirePosition 1 3 := ⟨gw_of 504 (by decide +kernel) rfl, gw_of 506 (by decide +kernel) rfl, gw_of 15 (by decide +kernel) rfl, gw_of 29 (by decide +kernel) rfl, gw_of 507 (by decide +kernel) rfl, ⟨by decide +kernel, by decide +kernel, by decide +kernel⟩, _, _, rfl⟩
theorem csL_49 : pmCv RL 49 kX3_isInForce 1 3 := ⟨gw_of 509 (by decide +kernel) rfl, gw_of 510 (by decide +kernel) rfl, gw_of 511 (by decide +kernel) rfl, gw_of 29 (by decide +kernel) rfl, gw_of 512 (by decide +kernel) rfl, ⟨by decide +kernel, by decide +kernel, by decide +kernel⟩, _, _, rfl⟩
theorem csL_53 : pmCv RL 53 kX3_expiring 2 3 := ⟨gw_of 513 (by decide +kernel) rfl, gw_of 514 (by decide +kernel) rfl, gw_of 515 (by decide +kernel) rfl, gw_of 29 (by decide +kernel) rfl, gw_of 516 (by decide +kernel) rfl, ⟨by decide +kernel, by decide +kernel, by decide +kernel⟩, _, _, rfl⟩
theorem csX3_135 : pmCs RX3 135 kX3_requireOwner 1 := ⟨gw_of 517 (by decide +kernel) rfl, gw_of 518 (by decide +kernel) rfl, gw_of 29 (by decide +kernel) rfl, gw_of 519 (by decide +kernel) rfl, ⟨by decide +kernel, by decide +kernel, by decide +kernel⟩⟩
theorem csX3_174 : pmCs RX3 174 kX3_requireDays 1 := ⟨gw_of 521 (by decide +kernel) rfl, gw_of 522 (by decide +kernel) rfl, gw_of 29 (by decide +kernel) rfl, gw_of 523 (by decide +kernel) rfl, ⟨by decide +kernel, by decide +kernel, by decide +kernel⟩⟩
theorem csL_56 : pmCv RL 56 kX3_packet 3 3 := ⟨gw_of 525 (by decide +kernel) rfl, gw_of 526 (by decide +kernel) rfl, gw_of 527 (by decide +kernel) rfl, gw_of 29 (by decide +kernel) rfl, gw_of 528 (by decide +kernel) rfl, ⟨by decide +kernel, by decide +kernel, by decide +kernel⟩, _, _, rfl⟩
theorem csX3_180 : pmCs RX3 180 kX3_requirePacket 3 := ⟨gw_of 529 (by decide +kernel) rfl, gw_of 530 (by decide +kernel) rfl, gw_of 29 (by decide +kernel) rfl, gw_of 531 (by decide +kernel) rfl, ⟨by decide +kernel, by decide +kernel, by decide +kernel⟩⟩
theorem csX3_184 : pmCv RX3 184 kX3_deciding 3 3 := ⟨gw_of 532 (by decide +kernel) rfl, gw_of 534 (by decide +kernel) rfl, gw_of 16 (by decide +kernel) rfl, gw_of 29 (by decide +kernel) rfl, gw_of 535 (by decide +kernel) rfl, ⟨by decide +kernel, by decide +kernel, by decide +kernel⟩, _, _, rfl⟩
theorem csX3_265 : pmCn RX3 265 kX1_matches 3 1 := ⟨⟨"FilterRules", nw_of 536 (by decide +kernel) rfl⟩, gw_of 538 (by decide +kernel) rfl, gw_of 17 (by decide +kernel) rfl, gw_of 31 (by decide +kernel) rfl, gw_of 539 (by decide +kernel) rfl, ⟨by decide +kernel, by decide +kernel, by decide +kernel⟩, _, _, rfl⟩
theorem csX1_44 : pmCsN RX1 44 kX3_contains 2 := ⟨⟨"FilterRules", nw_of 540 (by decide +kernel) rfl⟩, gw_of 414 (by decide +kernel) rfl, gw_of 29 (by decide +kernel) rfl, gw_of 415 (by decide +kernel) rfl, ⟨by decide +kernel, by decide +kernel, by decide +kernel⟩⟩
theorem csX3_188 : pmCn RX3 188 kX1_hitOn 1 1 := ⟨⟨"FilterRules", nw_of 541 (by decide +kernel) rfl⟩, gw_of 543 (by decide +kernel) rfl, gw_of 18 (by decide +kernel) rfl, gw_of 31 (by decide +kernel) rfl, gw_of 544 (by decide +kernel) rfl, ⟨by decide +kernel, by decide +kernel, by decide +kernel⟩, _, _, rfl⟩
theorem csL_60 : pmCv RL 60 kX3_decider 3 3 := ⟨gw_of 545 (by decide +kernel) rfl, gw_of 546 (by decide +kernel) rfl, gw_of 547 (by decide +kernel) rfl, gw_of 29 (by decide +kernel) rfl, gw_of 548 (by decide +kernel) rfl, ⟨by decide +kernel, by decide +kernel, by decide +kernel⟩, _, _, rfl⟩
theorem csL_63 : pmCv RL 63 kX3_hits 1 3 := ⟨gw_of 549 (by decide +kernel) rfl, gw_of 550 (by decide +kernel) rfl, gw_of 551 (by decide +kernel) rfl, gw_of 29 (by decide +kernel) rfl, gw_of 552 (by decide +kernel) rfl, ⟨by decide +kernel, by decide +kernel, by decide +kernel⟩, _, _, rfl⟩
theorem csL_66 : pmCv RL 66 kX3_busyDays 1 3 := ⟨gw_of 553 (by decide +kernel) rfl, gw_of 554 (by decide +kernel) rfl, gw_of 555 (by decide +kernel) rfl, gw_of 29 (by decide +kernel) rfl, gw_of 556 (by decide +kernel) rfl, ⟨by decide +kernel, by decide +kernel, by decide +kernel⟩, _, _, rfl⟩
theorem csL_69 : pmCv RL 69 kX3_idleDays 1 3 := ⟨gw_of 557 (by decide +kernel) rfl, gw_of 558 (by decide +kernel) rfl, gw_of 559 (by decide +kernel) rfl, gw_of 29 (by decide +kernel) rfl, gw_of 560 (by decide +kernel) rfl, ⟨by decide +kernel, by decide +kernel, by decide +kernel⟩, _, _, rfl⟩
theorem csL_72 : pmCv RL 72 kX3_pass 1 3 := ⟨gw_of 561 (by decide +kernel) rfl, gw_of 562 (by decide +kernel) rfl, gw_of 563 (by decide +kernel) rfl, gw_of 29 (by decide +kernel) rfl, gw_of 564 (by decide +kernel) rfl, ⟨by decide +kernel, by decide +kernel, by decide +kernel⟩, _, _, rfl⟩
theorem csL_75 : pmCv RL 75 kX3_matched 1 3 := ⟨gw_of 566 (by decide +kernel) rfl, gw_of 567 (by decide +kernel) rfl, gw_of 568 (by decide +kernel) rfl, gw_of 29 (by decide +kernel) rfl, gw_of 569 (by decide +kernel) rfl, ⟨by decide +kernel, by decide +kernel, by decide +kernel⟩, _, _, rfl⟩
theorem csX3_209 : pmCs RX3 209 kX3_packetsInBoth 2 := ⟨gw_of 570 (by decide +kernel) rfl, gw_of 571 (by decide +kernel) rfl, gw_of 29 (by decide +kernel) rfl, gw_of 572 (by decide +kernel) rfl, ⟨by decide +kernel, by decide +kernel, by decide +kernel⟩⟩
theorem csL_78 : pmCv RL 78 kX3_decided 1 3 := ⟨gw_of 573 (by decide +kernel) rfl, gw_of 574 (by decide +kernel) rfl, gw_of 575 (by decide +kernel) rfl, gw_of 29 (by decide +kernel) rfl, gw_of 576 (by decide +kernel) rfl, ⟨by decide +kernel, by decide +kernel, by decide +kernel⟩, _, _, rfl⟩
theorem csL_81 : pmCv RL 81 kX3_decidedBySamples 1 3 := ⟨gw_of 577 (by decide +kernel) rfl, gw_of 578 (by decide +kernel) rfl, gw_of 579 (by decide +kernel) rfl, gw_of 29 (by decide +kernel) rfl, gw_of 580 (by decide +kernel) rfl, ⟨by decide +kernel, by decide +kernel, by decide +kernel⟩, _, _, rfl⟩
theorem csX3_216 : pmCv RX3 216 kX3_tallyDeciders 2 3 := ⟨gw_of 581 (by decide +kernel) rfl, gw_of 583 (by decide +kernel) rfl, gw_of 19 (by decide +kernel) rfl, gw_of 29 (by decide +kernel) rfl, gw_of 584 (by decide +kernel) rfl, ⟨by decide +kernel, by decide +kernel, by decide +kernel⟩, _, _, rfl⟩
theorem csX3_288 : pmCs RX3 288 kJ7_fill_53178 2 := ⟨gw_of 585 (by decide +kernel) rfl, gw_of 586 (by decide +kernel) rfl, gw_of 45 (by decide +kernel) rfl, gw_of 587 (by decide +kernel) rfl, ⟨by decide +kernel, by decide +kernel, by decide +kernel⟩⟩
theorem csX3_294 : pmCv RX3 294 kX3_markValues 3 3 := ⟨gw_of 588 (by decide +kernel) rfl, gw_of 590 (by decide +kernel) rfl, gw_of 20 (by decide +kernel) rfl, gw_of 29 (by decide +kernel) rfl, gw_of 591 (by decide +kernel) rfl, ⟨by decide +kernel, by decide +kernel, by decide +kernel⟩, _, _, rfl⟩
theorem csX3_297 : pmCv RX3 297 kX3_groupValues 1 3 := ⟨gw_of 592 (by decide +kernel) rfl, gw_of 594 (by decide +kernel) rfl, gw_of 21 (by decide +kernel) rfl, gw_of 29 (by decide +kernel) rfl, gw_of 595 (by decide +kernel) rfl, ⟨by decide +kernel, by decide +kernel, by decide +kernel⟩, _, _, rfl⟩
theorem csX3_313 : pmCn RX3 313 kX0_put 1 0 := ⟨⟨"FilterRules", nw_of 596 (by decide +kernel) rfl⟩, gw_of 598 (by decide +kernel) rfl, gw_of 22 (by decide +kernel) rfl, gw_of 32 (by decide +kernel) rfl, gw_of 599 (by decide +kernel) rfl, ⟨by decide +kernel, by decide +kernel, by decide +kernel⟩, _, _, rfl⟩
theorem csX3_310 : pmCv RX3 310 kX3_tallyServices 2 3 := ⟨gw_of 600 (by decide +kernel) rfl, gw_of 602 (by decide +kernel) rfl, gw_of 23 (by decide +kernel) rfl, gw_of 29 (by decide +kernel) rfl, gw_of 603 (by decide +kernel) rfl, ⟨by decide +kernel, by decide +kernel, by decide +kernel⟩, _, _, rfl⟩
theorem csL_84 : pmCv RL 84 kX3_isShadowed 1 3 := ⟨gw_of 604 (by decide +kernel) rfl, gw_of 605 (by decide +kernel) rfl, gw_of 606 (by decide +kernel) rfl, gw_of 29 (by decide +kernel) rfl, gw_of 607 (by decide +kernel) rfl, ⟨by decide +kernel, by decide +kernel, by decide +kernel⟩, _, _, rfl⟩
theorem csX3_219 : pmCv RX3 219 kX3_isShadowedAt 1 3 := ⟨gw_of 608 (by decide +kernel) rfl, gw_of 610 (by decide +kernel) rfl, gw_of 24 (by decide +kernel) rfl, gw_of 29 (by decide +kernel) rfl, gw_of 611 (by decide +kernel) rfl, ⟨by decide +kernel, by decide +kernel, by decide +kernel⟩, _, _, rfl⟩
theorem csL_87 : pmCv RL 87 kX3_mainShadow 1 3 := ⟨gw_of 612 (by decide +kernel) rfl, gw_of 613 (by decide +kernel) rfl, gw_of 614 (by decide +kernel) rfl, gw_of 29 (by decide +kernel) rfl, gw_of 615 (by decide +kernel) rfl, ⟨by decide +kernel, by decide +kernel, by decide +kernel⟩, _, _, rfl⟩
theorem csL_90 : pmCv RL 90 kX3_changedByMove 2 3 := ⟨gw_of 617 (by decide +kernel) rfl, gw_of 618 (by decide +kernel) rfl, gw_of 619 (by decide +kernel) rfl, gw_of 29 (by decide +kernel) rfl, gw_of 620 (by decide +kernel) rfl, ⟨by decide +kernel, by decide +kernel, by decide +kernel⟩, _, _, rfl⟩
theorem csL_93 : pmCv RL 93 kX3_move 2 3 := ⟨gw_of 621 (by decide +kernel) rfl, gw_of 622 (by decide +kernel) rfl, gw_of 623 (by decide +kernel) rfl, gw_of 29 (by decide +kernel) rfl, gw_of 624 (by decide +kernel) rfl, ⟨by decide +kernel, by decide +kernel, by decide +kernel⟩, _, _, rfl⟩
theorem csL_96 : pmCv RL 96 kX3_changedByRange 3 3 := ⟨gw_of 626 (by decide +kernel) rfl, gw_of 627 (by decide +kernel) rfl, gw_of 628 (by decide +kernel) rfl, gw_of 29 (by decide +kernel) rfl, gw_of 629 (by decide +kernel) rfl, ⟨by decide +kernel, by decide +kernel, by decide +kernel⟩, _, _, rfl⟩
theorem csX3_233 : pmCv RX3 233 kX3_actionOf 1 3 := ⟨gw_of 630 (by decide +kernel) rfl, gw_of 632 (by decide +kernel) rfl, gw_of 25 (by decide +kernel) rfl, gw_of 29 (by decide +kernel) rfl, gw_of 633 (by decide +kernel) rfl, ⟨by decide +kernel, by decide +kernel, by decide +kernel⟩, _, _, rfl⟩
theorem csL_161 : pmCw RL 161 kL_addRule 7 := ⟨gw_of 634 (by decide +kernel) rfl, gw_of 635 (by decide +kernel) rfl, gw_of 28 (by decide +kernel) rfl, gw_of 636 (by decide +kernel) rfl, ⟨by decide +kernel, by decide +kernel, by decide +kernel⟩⟩
theorem csL_109 : pmCv RL 109 kX3_addRule 6 3 := ⟨gw_of 637 (by decide +kernel) rfl, gw_of 638 (by decide +kernel) rfl, gw_of 639 (by decide +kernel) rfl, gw_of 29 (by decide +kernel) rfl, gw_of 640 (by decide +kernel) rfl, ⟨by decide +kernel, by decide +kernel, by decide +kernel⟩, _, _, rfl⟩
theorem csX3_130 : pmCv RX3 130 kX3_requireObjectOrNone 1 3 := ⟨gw_of 641 (by decide +kernel) rfl, gw_of 643 (by decide +kernel) rfl, gw_of 26 (by decide +kernel) rfl, gw_of 29 (by decide +kernel) rfl, gw_of 644 (by decide +kernel) rfl, ⟨by decide +kernel, by decide +kernel, by decide +kernel⟩, _, _, rfl⟩
theorem csX3_146 : pmCn RX3 146 kX1_begin 4 1 := ⟨⟨"FilterRules", nw_of 647 (by decide +kernel) rfl⟩, gw_of 649 (by decide +kernel) rfl, gw_of 27 (by decide +kernel) rfl, gw_of 31 (by decide +kernel) rfl, gw_of 650 (by decide +kernel) rfl, ⟨by decide +kernel, by decide +kernel, by decide +kernel⟩, _, _, rfl⟩
theorem csL_152 : pmCs RL 152 kL_state 2 := ⟨gw_of 651 (by decide +kernel) rfl, gw_of 652 (by decide +kernel) rfl, gw_of 28 (by decide +kernel) rfl, gw_of 653 (by decide +kernel) rfl, ⟨by decide +kernel, by decide +kernel, by decide +kernel⟩⟩
theorem csL_164 : pmCs RL 164 kL_sound 2 := ⟨gw_of 656 (by decide +kernel) rfl, gw_of 657 (by decide +kernel) rfl, gw_of 28 (by decide +kernel) rfl, gw_of 658 (by decide +kernel) rfl, ⟨by decide +kernel, by decide +kernel, by decide +kernel⟩⟩
theorem csL_136 : pmCv RL 136 kX3_shadowedShare 0 3 := ⟨gw_of 660 (by decide +kernel) rfl, gw_of 661 (by decide +kernel) rfl, gw_of 662 (by decide +kernel) rfl, gw_of 29 (by decide +kernel) rfl, gw_of 663 (by decide +kernel) rfl, ⟨by decide +kernel, by decide +kernel, by decide +kernel⟩, _, _, rfl⟩
theorem csL_140 : pmCv RL 140 kX3_meanHits 0 3 := ⟨gw_of 680 (by decide +kernel) rfl, gw_of 681 (by decide +kernel) rfl, gw_of 682 (by decide +kernel) rfl, gw_of 29 (by decide +kernel) rfl, gw_of 683 (by decide +kernel) rfl, ⟨by decide +kernel, by decide +kernel, by decide +kernel⟩, _, _, rfl⟩
theorem csL_156 : pmCs RL 156 kJ9_abs_0f7a4 1 := ⟨gw_of 685 (by decide +kernel) rfl, gw_of 686 (by decide +kernel) rfl, gw_of 44 (by decide +kernel) rfl, gw_of 687 (by decide +kernel) rfl, ⟨by decide +kernel, by decide +kernel, by decide +kernel⟩⟩
theorem mminX3_272 : pmMin RX3 272 := ⟨gw_of 213 (by decide +kernel) rfl, gw_of 214 (by decide +kernel) rfl, gw_of 44 (by decide +kernel) rfl, gw_of 215 (by decide +kernel) rfl⟩
theorem kcJ6_265 : Cond.constant RJ6 265 (1431655765 : Int32) ∈ gw := gw_of 210 (by decide +kernel) rfl
theorem kcJ6_266 : Cond.constant RJ6 266 (858993459 : Int32) ∈ gw := gw_of 211 (by decide +kernel) rfl
theorem kcJ6_267 : Cond.constant RJ6 267 (252645135 : Int32) ∈ gw := gw_of 212 (by decide +kernel) rfl
theorem kcL_7 : Cond.constant RL 7 (960019 : Int32) ∈ gw := gw_of 242 (by decide +kernel) rfl
theorem kcL_8 : Cond.constant RL 8 (2147483647 : Int32) ∈ gw := gw_of 246 (by decide +kernel) rfl
theorem kcL_132 : Cond.constant RL 132 (32768 : Int32) ∈ gw := gw_of 659 (by decide +kernel) rfl
set_option maxRecDepth 100000 in
theorem th_43_45_47 : pmTh RX3 43 45 47 "java/lang/IllegalStateException" := ⟨["java/lang/RuntimeException", "java/lang/Exception"], "there are 8 objects", by decide +kernel, by decide +kernel, by decide, gw_of 338 (by decide +kernel) rfl, gw_of 39 (by decide +kernel) rfl, sw_of 347 (by decide +kernel) rfl, th_in (by decide +kernel), th_ot (by decide +kernel)⟩
set_option maxRecDepth 100000 in
theorem th_43_61_47 : pmTh RX3 43 61 47 "java/lang/IllegalStateException" := ⟨["java/lang/RuntimeException", "java/lang/Exception"], "the object has 3 ranges", by decide +kernel, by decide +kernel, by decide, gw_of 338 (by decide +kernel) rfl, gw_of 39 (by decide +kernel) rfl, sw_of 398 (by decide +kernel) rfl, th_in (by decide +kernel), th_ot (by decide +kernel)⟩
set_option maxRecDepth 100000 in
theorem th_43_73_47 : pmTh RX3 43 73 47 "java/lang/IllegalStateException" := ⟨["java/lang/RuntimeException", "java/lang/Exception"], "the object has no range", by decide +kernel, by decide +kernel, by decide, gw_of 338 (by decide +kernel) rfl, gw_of 39 (by decide +kernel) rfl, sw_of 420 (by decide +kernel) rfl, th_in (by decide +kernel), th_ot (by decide +kernel)⟩
set_option maxRecDepth 100000 in
theorem th_82_84_86 : pmTh RX3 82 84 86 "java/lang/IllegalArgumentException" := ⟨["java/lang/RuntimeException", "java/lang/Exception"], "both are the same, or it is a member already", by decide +kernel, by decide +kernel, by decide, gw_of 381 (by decide +kernel) rfl, gw_of 40 (by decide +kernel) rfl, sw_of 425 (by decide +kernel) rfl, th_in (by decide +kernel), th_ot (by decide +kernel)⟩
set_option maxRecDepth 100000 in
theorem th_91_93_95 : pmTh RX3 91 93 95 "java/lang/UnsupportedOperationException" := ⟨["java/lang/RuntimeException", "java/lang/Exception"], "an object would depend on itself", by decide +kernel, by decide +kernel, by decide, gw_of 429 (by decide +kernel) rfl, gw_of 41 (by decide +kernel) rfl, sw_of 438 (by decide +kernel) rfl, th_in (by decide +kernel), th_ot (by decide +kernel)⟩
set_option maxRecDepth 100000 in
theorem th_43_102_47 : pmTh RX3 43 102 47 "java/lang/IllegalStateException" := ⟨["java/lang/RuntimeException", "java/lang/Exception"], "the object has 2 members", by decide +kernel, by decide +kernel, by decide, gw_of 338 (by decide +kernel) rfl, gw_of 39 (by decide +kernel) rfl, sw_of 445 (by decide +kernel) rfl, th_in (by decide +kernel), th_ot (by decide +kernel)⟩
set_option maxRecDepth 100000 in
theorem th_125_127_129 : pmTh RX3 125 127 129 "java/lang/IndexOutOfBoundsException" := ⟨["java/lang/RuntimeException", "java/lang/Exception"], "there is no such position", by decide +kernel, by decide +kernel, by decide, gw_of 362 (by decide +kernel) rfl, gw_of 36 (by decide +kernel) rfl, sw_of 508 (by decide +kernel) rfl, th_in (by decide +kernel), th_ot (by decide +kernel)⟩
set_option maxRecDepth 100000 in
theorem th_82_133_86 : pmTh RX3 82 133 86 "java/lang/IllegalArgumentException" := ⟨["java/lang/RuntimeException", "java/lang/Exception"], "there is no such action", by decide +kernel, by decide +kernel, by decide, gw_of 381 (by decide +kernel) rfl, gw_of 40 (by decide +kernel) rfl, sw_of 645 (by decide +kernel) rfl, th_in (by decide +kernel), th_ot (by decide +kernel)⟩
set_option maxRecDepth 100000 in
theorem th_43_138_47 : pmTh RX3 43 138 47 "java/lang/IllegalStateException" := ⟨["java/lang/RuntimeException", "java/lang/Exception"], "there are 8 rules", by decide +kernel, by decide +kernel, by decide, gw_of 338 (by decide +kernel) rfl, gw_of 39 (by decide +kernel) rfl, sw_of 646 (by decide +kernel) rfl, th_in (by decide +kernel), th_ot (by decide +kernel)⟩
set_option maxRecDepth 100000 in
theorem th_82_162_86 : pmTh RX3 82 162 86 "java/lang/IllegalArgumentException" := ⟨["java/lang/RuntimeException", "java/lang/Exception"], "the day is out of range", by decide +kernel, by decide +kernel, by decide, gw_of 381 (by decide +kernel) rfl, gw_of 40 (by decide +kernel) rfl, sw_of 499 (by decide +kernel) rfl, th_in (by decide +kernel), th_ot (by decide +kernel)⟩
set_option maxRecDepth 100000 in
theorem th_82_207_86 : pmTh RX3 82 207 86 "java/lang/IllegalArgumentException" := ⟨["java/lang/RuntimeException", "java/lang/Exception"], "the day would be greater than 999", by decide +kernel, by decide +kernel, by decide, gw_of 381 (by decide +kernel) rfl, gw_of 40 (by decide +kernel) rfl, sw_of 565 (by decide +kernel) rfl, th_in (by decide +kernel), th_ot (by decide +kernel)⟩
set_option maxRecDepth 100000 in
theorem th_91_227_95 : pmTh RX3 91 227 95 "java/lang/UnsupportedOperationException" := ⟨["java/lang/RuntimeException", "java/lang/Exception"], "a packet would get another decision", by decide +kernel, by decide +kernel, by decide, gw_of 429 (by decide +kernel) rfl, gw_of 41 (by decide +kernel) rfl, sw_of 625 (by decide +kernel) rfl, th_in (by decide +kernel), th_ot (by decide +kernel)⟩
set_option maxRecDepth 100000 in
theorem th_240_242_244 : pmTh RX3 240 242 244 "java/lang/ArithmeticException" := ⟨["java/lang/RuntimeException", "java/lang/Exception"], "no rule is in force", by decide +kernel, by decide +kernel, by decide, gw_of 664 (by decide +kernel) rfl, gw_of 46 (by decide +kernel) rfl, sw_of 673 (by decide +kernel) rfl, th_in (by decide +kernel), th_ot (by decide +kernel)⟩
set_option maxRecDepth 100000 in
theorem th_240_245_244 : pmTh RX3 240 245 244 "java/lang/ArithmeticException" := ⟨["java/lang/RuntimeException", "java/lang/Exception"], "there are no rules", by decide +kernel, by decide +kernel, by decide, gw_of 664 (by decide +kernel) rfl, gw_of 46 (by decide +kernel) rfl, sw_of 684 (by decide +kernel) rfl, th_in (by decide +kernel), th_ot (by decide +kernel)⟩
set_option maxRecDepth 100000 in
theorem th_125_247_129 : pmTh RX3 125 247 129 "java/lang/IndexOutOfBoundsException" := ⟨["java/lang/RuntimeException", "java/lang/Exception"], "there is no such object", by decide +kernel, by decide +kernel, by decide, gw_of 362 (by decide +kernel) rfl, gw_of 36 (by decide +kernel) rfl, sw_of 371 (by decide +kernel) rfl, th_in (by decide +kernel), th_ot (by decide +kernel)⟩
set_option maxRecDepth 100000 in
theorem th_82_251_86 : pmTh RX3 82 251 86 "java/lang/IllegalArgumentException" := ⟨["java/lang/RuntimeException", "java/lang/Exception"], "a value is out of range", by decide +kernel, by decide +kernel, by decide, gw_of 381 (by decide +kernel) rfl, gw_of 40 (by decide +kernel) rfl, sw_of 390 (by decide +kernel) rfl, th_in (by decide +kernel), th_ot (by decide +kernel)⟩
set_option maxRecDepth 100000 in
theorem th_82_253_86 : pmTh RX3 82 253 86 "java/lang/IllegalArgumentException" := ⟨["java/lang/RuntimeException", "java/lang/Exception"], "the last value is less than the first one", by decide +kernel, by decide +kernel, by decide, gw_of 381 (by decide +kernel) rfl, gw_of 40 (by decide +kernel) rfl, sw_of 397 (by decide +kernel) rfl, th_in (by decide +kernel), th_ot (by decide +kernel)⟩
set_option maxRecDepth 100000 in
theorem th_82_255_86 : pmTh RX3 82 255 86 "java/lang/IllegalArgumentException" := ⟨["java/lang/RuntimeException", "java/lang/Exception"], "the owner is out of range", by decide +kernel, by decide +kernel, by decide, gw_of 381 (by decide +kernel) rfl, gw_of 40 (by decide +kernel) rfl, sw_of 520 (by decide +kernel) rfl, th_in (by decide +kernel), th_ot (by decide +kernel)⟩
set_option maxRecDepth 100000 in
theorem th_82_257_86 : pmTh RX3 82 257 86 "java/lang/IllegalArgumentException" := ⟨["java/lang/RuntimeException", "java/lang/Exception"], "the number of days is out of range", by decide +kernel, by decide +kernel, by decide, gw_of 381 (by decide +kernel) rfl, gw_of 40 (by decide +kernel) rfl, sw_of 524 (by decide +kernel) rfl, th_in (by decide +kernel), th_ot (by decide +kernel)⟩
