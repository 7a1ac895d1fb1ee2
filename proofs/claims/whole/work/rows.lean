section
-- ===== PART A: goes FIRST, ahead of the names: the tables' words, and 'selects' of the private methods out of them =====
/-- a private method of a class that the tables say can be made, by its rows of tables_1 -/
def lw_okq (q : MethodName × Nat) : Prop := (q.1.cls ≠ "java/lang/invoke/MethodHandle" ∧ q.1.cls ≠ "java/lang/invoke/VarHandle") ∧ Cond.instantiable q.1.cls q.2 ∈ tables_1 ∧ Cond.privateMethod q.1 ∈ tables_1 ∧ Cond.instanceMethod q.1 ∈ tables_1
theorem lw_p0 : lw_okq (⟨"FilterRules", "decidedAt", "(I)I"⟩, 9) := ⟨⟨by decide +kernel, by decide +kernel⟩, List.mem_of_getElem? (i := 21) (by decide +kernel), List.mem_of_getElem? (i := 159) (by decide +kernel), List.mem_of_getElem? (i := 160) (by decide +kernel)⟩
theorem lw_p1 : lw_okq (⟨"FilterRules$Rule", "lastsOn", "(I)Z"⟩, 10) := ⟨⟨by decide +kernel, by decide +kernel⟩, List.mem_of_getElem? (i := 54) (by decide +kernel), List.mem_of_getElem? (i := 163) (by decide +kernel), List.mem_of_getElem? (i := 164) (by decide +kernel)⟩
theorem lw_p2 : lw_okq (⟨"FilterRules", "inForceAhead", "(I)I"⟩, 9) := ⟨⟨by decide +kernel, by decide +kernel⟩, List.mem_of_getElem? (i := 21) (by decide +kernel), List.mem_of_getElem? (i := 167) (by decide +kernel), List.mem_of_getElem? (i := 168) (by decide +kernel)⟩
theorem lw_p3 : lw_okq (⟨"FilterRules", "leftOfBoth", "(LFilterRules$Rule;LFilterRules$Rule;I)I"⟩, 9) := ⟨⟨by decide +kernel, by decide +kernel⟩, List.mem_of_getElem? (i := 21) (by decide +kernel), List.mem_of_getElem? (i := 171) (by decide +kernel), List.mem_of_getElem? (i := 172) (by decide +kernel)⟩
theorem lw_p4 : lw_okq (⟨"FilterRules", "swapByHits", "()I"⟩, 9) := ⟨⟨by decide +kernel, by decide +kernel⟩, List.mem_of_getElem? (i := 21) (by decide +kernel), List.mem_of_getElem? (i := 197) (by decide +kernel), List.mem_of_getElem? (i := 198) (by decide +kernel)⟩
theorem lw_p5 : lw_okq (⟨"FilterRules", "changedByShift", "(II)I"⟩, 9) := ⟨⟨by decide +kernel, by decide +kernel⟩, List.mem_of_getElem? (i := 21) (by decide +kernel), List.mem_of_getElem? (i := 201) (by decide +kernel), List.mem_of_getElem? (i := 202) (by decide +kernel)⟩
theorem lw_p6 : lw_okq (⟨"FilterRules", "changedAgainst", "(III)I"⟩, 9) := ⟨⟨by decide +kernel, by decide +kernel⟩, List.mem_of_getElem? (i := 21) (by decide +kernel), List.mem_of_getElem? (i := 205) (by decide +kernel), List.mem_of_getElem? (i := 206) (by decide +kernel)⟩
theorem lw_p7 : lw_okq (⟨"FilterRules", "shift", "(II)V"⟩, 9) := ⟨⟨by decide +kernel, by decide +kernel⟩, List.mem_of_getElem? (i := 21) (by decide +kernel), List.mem_of_getElem? (i := 209) (by decide +kernel), List.mem_of_getElem? (i := 210) (by decide +kernel)⟩
theorem lw_p8 : lw_okq (⟨"java/lang/Throwable", "fillInStackTrace", "(I)Ljava/lang/Throwable;"⟩, 6) := ⟨⟨by decide +kernel, by decide +kernel⟩, List.mem_of_getElem? (i := 263) (by decide +kernel), List.mem_of_getElem? (i := 261) (by decide +kernel), List.mem_of_getElem? (i := 262) (by decide +kernel)⟩
theorem lw_p9 : lw_okq (⟨"FilterRules", "requireObject", "(I)V"⟩, 9) := ⟨⟨by decide +kernel, by decide +kernel⟩, List.mem_of_getElem? (i := 21) (by decide +kernel), List.mem_of_getElem? (i := 325) (by decide +kernel), List.mem_of_getElem? (i := 326) (by decide +kernel)⟩
theorem lw_p10 : lw_okq (⟨"FilterRules", "updateMatching", "()V"⟩, 9) := ⟨⟨by decide +kernel, by decide +kernel⟩, List.mem_of_getElem? (i := 21) (by decide +kernel), List.mem_of_getElem? (i := 369) (by decide +kernel), List.mem_of_getElem? (i := 370) (by decide +kernel)⟩
theorem lw_p11 : lw_okq (⟨"FilterRules$ValueSet", "ownValues", "()I"⟩, 3) := ⟨⟨by decide +kernel, by decide +kernel⟩, List.mem_of_getElem? (i := 36) (by decide +kernel), List.mem_of_getElem? (i := 376) (by decide +kernel), List.mem_of_getElem? (i := 377) (by decide +kernel)⟩
theorem lw_p12 : lw_okq (⟨"FilterRules", "isOrNeeds", "(II)Z"⟩, 9) := ⟨⟨by decide +kernel, by decide +kernel⟩, List.mem_of_getElem? (i := 21) (by decide +kernel), List.mem_of_getElem? (i := 465) (by decide +kernel), List.mem_of_getElem? (i := 466) (by decide +kernel)⟩
theorem lw_p13 : lw_okq (⟨"FilterRules", "requireObjectOrNone", "(I)V"⟩, 9) := ⟨⟨by decide +kernel, by decide +kernel⟩, List.mem_of_getElem? (i := 21) (by decide +kernel), List.mem_of_getElem? (i := 477) (by decide +kernel), List.mem_of_getElem? (i := 478) (by decide +kernel)⟩
theorem lw_p14 : lw_okq (⟨"FilterRules$Rule", "begin", "(ICII)V"⟩, 10) := ⟨⟨by decide +kernel, by decide +kernel⟩, List.mem_of_getElem? (i := 54) (by decide +kernel), List.mem_of_getElem? (i := 487) (by decide +kernel), List.mem_of_getElem? (i := 488) (by decide +kernel)⟩
theorem lw_p15 : lw_okq (⟨"FilterRules", "requireRule", "(I)I"⟩, 9) := ⟨⟨by decide +kernel, by decide +kernel⟩, List.mem_of_getElem? (i := 21) (by decide +kernel), List.mem_of_getElem? (i := 498) (by decide +kernel), List.mem_of_getElem? (i := 499) (by decide +kernel)⟩
def lw_privs_1 : List (MethodName × Nat) := [(⟨"FilterRules", "decidedAt", "(I)I"⟩, 9), (⟨"FilterRules$Rule", "lastsOn", "(I)Z"⟩, 10), (⟨"FilterRules", "inForceAhead", "(I)I"⟩, 9), (⟨"FilterRules", "leftOfBoth", "(LFilterRules$Rule;LFilterRules$Rule;I)I"⟩, 9), (⟨"FilterRules", "swapByHits", "()I"⟩, 9), (⟨"FilterRules", "changedByShift", "(II)I"⟩, 9), (⟨"FilterRules", "changedAgainst", "(III)I"⟩, 9), (⟨"FilterRules", "shift", "(II)V"⟩, 9), (⟨"java/lang/Throwable", "fillInStackTrace", "(I)Ljava/lang/Throwable;"⟩, 6), (⟨"FilterRules", "requireObject", "(I)V"⟩, 9), (⟨"FilterRules", "updateMatching", "()V"⟩, 9), (⟨"FilterRules$ValueSet", "ownValues", "()I"⟩, 3), (⟨"FilterRules", "isOrNeeds", "(II)Z"⟩, 9), (⟨"FilterRules", "requireObjectOrNone", "(I)V"⟩, 9), (⟨"FilterRules$Rule", "begin", "(ICII)V"⟩, 10), (⟨"FilterRules", "requireRule", "(I)I"⟩, 9)]
theorem lw_r1 : ∀ q ∈ lw_privs_1, lw_okq q := List.forall_mem_cons.mpr ⟨lw_p0, List.forall_mem_cons.mpr ⟨lw_p1, List.forall_mem_cons.mpr ⟨lw_p2, List.forall_mem_cons.mpr ⟨lw_p3, List.forall_mem_cons.mpr ⟨lw_p4, List.forall_mem_cons.mpr ⟨lw_p5, List.forall_mem_cons.mpr ⟨lw_p6, List.forall_mem_cons.mpr ⟨lw_p7, List.forall_mem_cons.mpr ⟨lw_p8, List.forall_mem_cons.mpr ⟨lw_p9, List.forall_mem_cons.mpr ⟨lw_p10, List.forall_mem_cons.mpr ⟨lw_p11, List.forall_mem_cons.mpr ⟨lw_p12, List.forall_mem_cons.mpr ⟨lw_p13, List.forall_mem_cons.mpr ⟨lw_p14, List.forall_mem_cons.mpr ⟨lw_p15, fun _ h => absurd h List.not_mem_nil⟩⟩⟩⟩⟩⟩⟩⟩⟩⟩⟩⟩⟩⟩⟩⟩
theorem lw_p16 : lw_okq (⟨"FilterRules", "changedByRemoval", "(I)I"⟩, 9) := ⟨⟨by decide +kernel, by decide +kernel⟩, List.mem_of_getElem? (i := 21) (by decide +kernel), List.mem_of_getElem? (i := 503) (by decide +kernel), List.mem_of_getElem? (i := 504) (by decide +kernel)⟩
theorem lw_p17 : lw_okq (⟨"FilterRules", "requirePosition", "(I)V"⟩, 9) := ⟨⟨by decide +kernel, by decide +kernel⟩, List.mem_of_getElem? (i := 21) (by decide +kernel), List.mem_of_getElem? (i := 522) (by decide +kernel), List.mem_of_getElem? (i := 523) (by decide +kernel)⟩
theorem lw_p18 : lw_okq (⟨"FilterRules", "deciding", "(III)I"⟩, 9) := ⟨⟨by decide +kernel, by decide +kernel⟩, List.mem_of_getElem? (i := 21) (by decide +kernel), List.mem_of_getElem? (i := 554) (by decide +kernel), List.mem_of_getElem? (i := 555) (by decide +kernel)⟩
theorem lw_p19 : lw_okq (⟨"FilterRules$Rule", "matches", "(III)Z"⟩, 10) := ⟨⟨by decide +kernel, by decide +kernel⟩, List.mem_of_getElem? (i := 54) (by decide +kernel), List.mem_of_getElem? (i := 558) (by decide +kernel), List.mem_of_getElem? (i := 559) (by decide +kernel)⟩
theorem lw_p20 : lw_okq (⟨"FilterRules$Rule", "hitOn", "(I)V"⟩, 10) := ⟨⟨by decide +kernel, by decide +kernel⟩, List.mem_of_getElem? (i := 54) (by decide +kernel), List.mem_of_getElem? (i := 563) (by decide +kernel), List.mem_of_getElem? (i := 564) (by decide +kernel)⟩
theorem lw_p21 : lw_okq (⟨"FilterRules", "tallyDeciders", "(II)V"⟩, 9) := ⟨⟨by decide +kernel, by decide +kernel⟩, List.mem_of_getElem? (i := 21) (by decide +kernel), List.mem_of_getElem? (i := 627) (by decide +kernel), List.mem_of_getElem? (i := 628) (by decide +kernel)⟩
theorem lw_p22 : lw_okq (⟨"FilterRules", "markValues", "(III)V"⟩, 9) := ⟨⟨by decide +kernel, by decide +kernel⟩, List.mem_of_getElem? (i := 21) (by decide +kernel), List.mem_of_getElem? (i := 634) (by decide +kernel), List.mem_of_getElem? (i := 635) (by decide +kernel)⟩
theorem lw_p23 : lw_okq (⟨"FilterRules", "groupValues", "(LFilterRules$Groups;)V"⟩, 9) := ⟨⟨by decide +kernel, by decide +kernel⟩, List.mem_of_getElem? (i := 21) (by decide +kernel), List.mem_of_getElem? (i := 638) (by decide +kernel), List.mem_of_getElem? (i := 639) (by decide +kernel)⟩
theorem lw_p24 : lw_okq (⟨"FilterRules$Groups", "put", "(I)V"⟩, 3) := ⟨⟨by decide +kernel, by decide +kernel⟩, List.mem_of_getElem? (i := 100) (by decide +kernel), List.mem_of_getElem? (i := 642) (by decide +kernel), List.mem_of_getElem? (i := 643) (by decide +kernel)⟩
theorem lw_p25 : lw_okq (⟨"FilterRules", "tallyServices", "(II)V"⟩, 9) := ⟨⟨by decide +kernel, by decide +kernel⟩, List.mem_of_getElem? (i := 21) (by decide +kernel), List.mem_of_getElem? (i := 646) (by decide +kernel), List.mem_of_getElem? (i := 647) (by decide +kernel)⟩
theorem lw_p26 : lw_okq (⟨"FilterRules", "isShadowedAt", "(I)Z"⟩, 9) := ⟨⟨by decide +kernel, by decide +kernel⟩, List.mem_of_getElem? (i := 21) (by decide +kernel), List.mem_of_getElem? (i := 657) (by decide +kernel), List.mem_of_getElem? (i := 658) (by decide +kernel)⟩
theorem lw_p27 : lw_okq (⟨"FilterRules", "actionOf", "(I)C"⟩, 9) := ⟨⟨by decide +kernel, by decide +kernel⟩, List.mem_of_getElem? (i := 21) (by decide +kernel), List.mem_of_getElem? (i := 691) (by decide +kernel), List.mem_of_getElem? (i := 692) (by decide +kernel)⟩
theorem lw_p28 : lw_okq (⟨"FilterRulesModel", "fails", "(I)I"⟩, 24) := ⟨⟨by decide +kernel, by decide +kernel⟩, List.mem_of_getElem? (i := 727) (by decide +kernel), List.mem_of_getElem? (i := 815) (by decide +kernel), List.mem_of_getElem? (i := 816) (by decide +kernel)⟩
theorem lw_p29 : lw_okq (⟨"FilterRulesModel", "isObject", "(I)Z"⟩, 24) := ⟨⟨by decide +kernel, by decide +kernel⟩, List.mem_of_getElem? (i := 727) (by decide +kernel), List.mem_of_getElem? (i := 823) (by decide +kernel), List.mem_of_getElem? (i := 824) (by decide +kernel)⟩
theorem lw_p30 : lw_okq (⟨"FilterRulesModel", "memberAt", "(II)I"⟩, 24) := ⟨⟨by decide +kernel, by decide +kernel⟩, List.mem_of_getElem? (i := 727) (by decide +kernel), List.mem_of_getElem? (i := 838) (by decide +kernel), List.mem_of_getElem? (i := 839) (by decide +kernel)⟩
theorem lw_p31 : lw_okq (⟨"FilterRulesModel", "dependents", "(I)I"⟩, 24) := ⟨⟨by decide +kernel, by decide +kernel⟩, List.mem_of_getElem? (i := 727) (by decide +kernel), List.mem_of_getElem? (i := 842) (by decide +kernel), List.mem_of_getElem? (i := 843) (by decide +kernel)⟩
def lw_privs_2 : List (MethodName × Nat) := [(⟨"FilterRules", "changedByRemoval", "(I)I"⟩, 9), (⟨"FilterRules", "requirePosition", "(I)V"⟩, 9), (⟨"FilterRules", "deciding", "(III)I"⟩, 9), (⟨"FilterRules$Rule", "matches", "(III)Z"⟩, 10), (⟨"FilterRules$Rule", "hitOn", "(I)V"⟩, 10), (⟨"FilterRules", "tallyDeciders", "(II)V"⟩, 9), (⟨"FilterRules", "markValues", "(III)V"⟩, 9), (⟨"FilterRules", "groupValues", "(LFilterRules$Groups;)V"⟩, 9), (⟨"FilterRules$Groups", "put", "(I)V"⟩, 3), (⟨"FilterRules", "tallyServices", "(II)V"⟩, 9), (⟨"FilterRules", "isShadowedAt", "(I)Z"⟩, 9), (⟨"FilterRules", "actionOf", "(I)C"⟩, 9), (⟨"FilterRulesModel", "fails", "(I)I"⟩, 24), (⟨"FilterRulesModel", "isObject", "(I)Z"⟩, 24), (⟨"FilterRulesModel", "memberAt", "(II)I"⟩, 24), (⟨"FilterRulesModel", "dependents", "(I)I"⟩, 24)]
theorem lw_r2 : ∀ q ∈ lw_privs_2, lw_okq q := List.forall_mem_cons.mpr ⟨lw_p16, List.forall_mem_cons.mpr ⟨lw_p17, List.forall_mem_cons.mpr ⟨lw_p18, List.forall_mem_cons.mpr ⟨lw_p19, List.forall_mem_cons.mpr ⟨lw_p20, List.forall_mem_cons.mpr ⟨lw_p21, List.forall_mem_cons.mpr ⟨lw_p22, List.forall_mem_cons.mpr ⟨lw_p23, List.forall_mem_cons.mpr ⟨lw_p24, List.forall_mem_cons.mpr ⟨lw_p25, List.forall_mem_cons.mpr ⟨lw_p26, List.forall_mem_cons.mpr ⟨lw_p27, List.forall_mem_cons.mpr ⟨lw_p28, List.forall_mem_cons.mpr ⟨lw_p29, List.forall_mem_cons.mpr ⟨lw_p30, List.forall_mem_cons.mpr ⟨lw_p31, fun _ h => absurd h List.not_mem_nil⟩⟩⟩⟩⟩⟩⟩⟩⟩⟩⟩⟩⟩⟩⟩⟩
theorem lw_p32 : lw_okq (⟨"FilterRulesModel", "spreads", "(II)V"⟩, 24) := ⟨⟨by decide +kernel, by decide +kernel⟩, List.mem_of_getElem? (i := 727) (by decide +kernel), List.mem_of_getElem? (i := 854) (by decide +kernel), List.mem_of_getElem? (i := 855) (by decide +kernel)⟩
theorem lw_p33 : lw_okq (⟨"FilterRulesModel", "positionOf", "(I)I"⟩, 24) := ⟨⟨by decide +kernel, by decide +kernel⟩, List.mem_of_getElem? (i := 727) (by decide +kernel), List.mem_of_getElem? (i := 880) (by decide +kernel), List.mem_of_getElem? (i := 881) (by decide +kernel)⟩
theorem lw_p34 : lw_okq (⟨"FilterRulesModel", "laysNow", "()I"⟩, 24) := ⟨⟨by decide +kernel, by decide +kernel⟩, List.mem_of_getElem? (i := 727) (by decide +kernel), List.mem_of_getElem? (i := 884) (by decide +kernel), List.mem_of_getElem? (i := 885) (by decide +kernel)⟩
theorem lw_p35 : lw_okq (⟨"FilterRulesModel", "lays", "(I[II)V"⟩, 24) := ⟨⟨by decide +kernel, by decide +kernel⟩, List.mem_of_getElem? (i := 727) (by decide +kernel), List.mem_of_getElem? (i := 888) (by decide +kernel), List.mem_of_getElem? (i := 889) (by decide +kernel)⟩
theorem lw_p36 : lw_okq (⟨"FilterRulesModel", "isOn", "(I)Z"⟩, 24) := ⟨⟨by decide +kernel, by decide +kernel⟩, List.mem_of_getElem? (i := 727) (by decide +kernel), List.mem_of_getElem? (i := 892) (by decide +kernel), List.mem_of_getElem? (i := 893) (by decide +kernel)⟩
theorem lw_p37 : lw_okq (⟨"FilterRulesModel", "setOf", "(II)I"⟩, 24) := ⟨⟨by decide +kernel, by decide +kernel⟩, List.mem_of_getElem? (i := 727) (by decide +kernel), List.mem_of_getElem? (i := 896) (by decide +kernel), List.mem_of_getElem? (i := 897) (by decide +kernel)⟩
theorem lw_p38 : lw_okq (⟨"FilterRulesModel", "unlike", "()I"⟩, 24) := ⟨⟨by decide +kernel, by decide +kernel⟩, List.mem_of_getElem? (i := 727) (by decide +kernel), List.mem_of_getElem? (i := 900) (by decide +kernel), List.mem_of_getElem? (i := 901) (by decide +kernel)⟩
theorem lw_p39 : lw_okq (⟨"FilterRulesModel", "slotOf", "(I)I"⟩, 24) := ⟨⟨by decide +kernel, by decide +kernel⟩, List.mem_of_getElem? (i := 727) (by decide +kernel), List.mem_of_getElem? (i := 912) (by decide +kernel), List.mem_of_getElem? (i := 913) (by decide +kernel)⟩
theorem lw_p40 : lw_okq (⟨"FilterRulesModel", "deciding", "(III)I"⟩, 24) := ⟨⟨by decide +kernel, by decide +kernel⟩, List.mem_of_getElem? (i := 727) (by decide +kernel), List.mem_of_getElem? (i := 939) (by decide +kernel), List.mem_of_getElem? (i := 940) (by decide +kernel)⟩
theorem lw_p41 : lw_okq (⟨"FilterRulesModel", "deciding", "(I)I"⟩, 24) := ⟨⟨by decide +kernel, by decide +kernel⟩, List.mem_of_getElem? (i := 727) (by decide +kernel), List.mem_of_getElem? (i := 975) (by decide +kernel), List.mem_of_getElem? (i := 976) (by decide +kernel)⟩
theorem lw_p42 : lw_okq (⟨"FilterRulesModel", "byMove", "(II)I"⟩, 24) := ⟨⟨by decide +kernel, by decide +kernel⟩, List.mem_of_getElem? (i := 727) (by decide +kernel), List.mem_of_getElem? (i := 1000) (by decide +kernel), List.mem_of_getElem? (i := 1001) (by decide +kernel)⟩
theorem lw_p43 : lw_okq (⟨"FilterRulesModel", "takes", "()V"⟩, 24) := ⟨⟨by decide +kernel, by decide +kernel⟩, List.mem_of_getElem? (i := 727) (by decide +kernel), List.mem_of_getElem? (i := 1008) (by decide +kernel), List.mem_of_getElem? (i := 1009) (by decide +kernel)⟩
def lw_privs_3 : List (MethodName × Nat) := [(⟨"FilterRulesModel", "spreads", "(II)V"⟩, 24), (⟨"FilterRulesModel", "positionOf", "(I)I"⟩, 24), (⟨"FilterRulesModel", "laysNow", "()I"⟩, 24), (⟨"FilterRulesModel", "lays", "(I[II)V"⟩, 24), (⟨"FilterRulesModel", "isOn", "(I)Z"⟩, 24), (⟨"FilterRulesModel", "setOf", "(II)I"⟩, 24), (⟨"FilterRulesModel", "unlike", "()I"⟩, 24), (⟨"FilterRulesModel", "slotOf", "(I)I"⟩, 24), (⟨"FilterRulesModel", "deciding", "(III)I"⟩, 24), (⟨"FilterRulesModel", "deciding", "(I)I"⟩, 24), (⟨"FilterRulesModel", "byMove", "(II)I"⟩, 24), (⟨"FilterRulesModel", "takes", "()V"⟩, 24)]
theorem lw_r3 : ∀ q ∈ lw_privs_3, lw_okq q := List.forall_mem_cons.mpr ⟨lw_p32, List.forall_mem_cons.mpr ⟨lw_p33, List.forall_mem_cons.mpr ⟨lw_p34, List.forall_mem_cons.mpr ⟨lw_p35, List.forall_mem_cons.mpr ⟨lw_p36, List.forall_mem_cons.mpr ⟨lw_p37, List.forall_mem_cons.mpr ⟨lw_p38, List.forall_mem_cons.mpr ⟨lw_p39, List.forall_mem_cons.mpr ⟨lw_p40, List.forall_mem_cons.mpr ⟨lw_p41, List.forall_mem_cons.mpr ⟨lw_p42, List.forall_mem_cons.mpr ⟨lw_p43, fun _ h => absurd h List.not_mem_nil⟩⟩⟩⟩⟩⟩⟩⟩⟩⟩⟩⟩
def lw_privs : List (MethodName × Nat) := lw_privs_1 ++ (lw_privs_2 ++ (lw_privs_3))
def lw_tbl : List Cond := k2_sels lw_privs ++ tables_1
theorem lw_privs_ok : ∀ q ∈ lw_privs, lw_okq q := by
  show ∀ q ∈ lw_privs_1 ++ (lw_privs_2 ++ (lw_privs_3)), lw_okq q
  exact List.forall_mem_append.mpr ⟨lw_r1, List.forall_mem_append.mpr ⟨lw_r2, lw_r3⟩⟩
/-- the streams that the claim lets the run draw from -/
abbrev lw_cs : List Choice := [Jvm.Choice.named "NaN.bits"]
theorem lw_bits : nanBits ∈ lw_cs := by first | decide | exact List.mem_cons_self | simp [lw_cs, nanBits]
-- ===== end of PART A; then your names; then what follows =====
/-- the printed names use this word, but no row of theirs defines it (arrays of arrays: what the tables say) -/
def va_AOA (ty : FieldType) (U : State) : Prop := (Cond.arrayOver (.array ty)).before #[] U = true
theorem va_AOA.use {ty : FieldType} {A : Array Value} {U : State} (h : va_AOA ty U) : (Cond.arrayOver (.array ty)).before A U = true := h
/-! ===== BEGIN words of one list among another's, by their places ===== -/
theorem goodIn_r {big : List Cond} (ws : List Cond) (ps : List Nat) (hp : ws = ps.filterMap (fun i => big[i]?)) (h : ws.all goodWord = true) : GoodIn big ws := by
  intro w hw
  have h1 := List.all_eq_true.mp h w hw
  rw [hp] at hw
  obtain ⟨i, -, hi⟩ := List.mem_filterMap.mp hw
  have hm : w ∈ big := by first | exact List.mem_of_getElem? hi | exact List.getElem?_mem hi
  exact ⟨hm, good_of_word h1⟩
theorem goodIn_app {big a b : List Cond} (ha : GoodIn big a) (hb : GoodIn big b) : GoodIn big (a ++ b) := fun w h => (List.mem_append.mp h).elim (ha w) (hb w)
theorem goodIn_ca {big a b : List Cond} {c : Cond} (ha : GoodIn big (c :: a)) (hb : GoodIn big b) : GoodIn big (c :: (a ++ b)) := fun w h => (List.mem_cons.mp h).elim (fun e => ha w (List.mem_cons.mpr (Or.inl e))) (fun h => (List.mem_append.mp h).elim (fun h => ha w (List.mem_cons.mpr (Or.inr h))) (hb w))
theorem goodIn_sub {big ws : List Cond} (hm : ∀ w ∈ ws, w ∈ big) (h : ws.all goodWord = true) : GoodIn big ws := fun w hw => ⟨hm w hw, good_of_word (List.all_eq_true.mp h w hw)⟩
/-! ===== END ===== -/

/-! ===== BEGIN new T[n][m]: the outer array a place, the inner ones among the pooled ===== -/
/-- f, but v at every address of l -/
def vr_up {α : Type} (f : Nat → α) (l : List Nat) (v : α) : Nat → α := fun a => if a ∈ l then v else f a
theorem vr_up_in {α : Type} {f : Nat → α} {l : List Nat} {v : α} {a : Nat} (h : a ∈ l) : vr_up f l v a = v := if_pos h
theorem vr_up_ne {α : Type} {f : Nat → α} {l : List Nat} {v : α} {a : Nat} (h : a ∉ l) : vr_up f l v a = f a := if_neg h
theorem vr_rows {L l : List Nat} {f : Nat → va_E} {e : va_E} (h : ∀ a, a ∈ l → a ∉ L) : va_pl L f ++ l.map (fun a => (a, e)) = va_pl (L ++ l) (vr_up f l e) := by
  unfold va_pl
  rw [List.map_append]
  congr 1
  · apply List.map_congr_left
    intro a ha
    rw [vr_up_ne (fun q => h a q ha)]
  · apply List.map_congr_left
    intro a ha
    rw [vr_up_in ha]
theorem vr_lay {X rows : va_W} {x : Nat × va_E} {pl : va_W} {D : va_G} {cl : List vw_C} {H : Heap} (hP : va_P D cl (((X ++ pl) ++ [x]) ++ rows) H) : va_P D cl ((X ++ [x]) ++ (pl ++ rows)) H := by
  rw [List.append_assoc (X ++ pl)] at hP
  have h := va_P.swap hP
  rw [← List.append_assoc X] at h
  have h2 := va_P.swap h
  rw [List.append_assoc (X ++ [x])] at h2
  exact h2
theorem vr_layD {X rows : va_W} {x : Nat × va_E} {pl : va_W} {A : Nat → Prop} (hD : va_D A (((X ++ pl) ++ [x]) ++ rows)) : va_D A ((X ++ [x]) ++ (pl ++ rows)) := by
  rw [List.append_assoc (X ++ pl)] at hD
  have h := va_D.swap hD
  rw [← List.append_assoc X] at h
  have h2 := va_D.swap h
  rw [List.append_assoc (X ++ [x])] at h2
  exact h2
theorem vr_outer (c : ClassId) (N h0 : Nat) : ∀ i : Nat, Jvm.Free.Multi.outerC c N h0 i = arrV c N (fun j => va_rf (if j < i then some (h0 + 1 + j) else none))
  | 0 => by
    show ({ cls := c, slots := Array.replicate N .null, vm := .none } : Cell) = _
    rw [arrV_new]
    refine congrArg (arrV c N) (funext fun j => ?_)
    simp [va_rf]
  | i + 1 => by
    show (Jvm.Free.Multi.outerC c N h0 i).setSlot i (.ref (h0 + 1 + i)) = _
    rw [vr_outer c N h0 i, arrV_store]
    refine congrArg (arrV c N) (funext fun j => ?_)
    by_cases e : j = i
    · subst e
      simp [updV, va_rf]
    · by_cases h : j < i
      · simp [updV, e, h, Nat.lt_succ_of_lt h]
      · simp [updV, e, h, show ¬ j < i + 1 by omega]
section VGM
variable {p : Program} {l : Launch} {e : Env} {R : Room} {s : State} {m : MethodId} {args : Array Value} {below : List Frame} {meth : Method} {c : Code} {H : Heap} {locs : List Loc} {cells slots : Nat} {Q : State → Prop}
variable {cc : ByteArray} {pc : Nat} {ls : Array Slot} {rest : List Value} {D : va_G} {cl : List vw_C} {A : Nat → Prop} {a : Nat} {tys : List (ClassId × FieldType)} {ws : va_W} {H0 : Heap}
theorem va_mna {X : va_W} {L : List Nat} {f : Nat → va_E} {cc : ByteArray} (hexec : p.tables.exec = Jvm.exec) (hb : c.code = cc) {own : String} {index : Nat} {ty : FieldType} {cy : ClassId} (hown : s.vm.findClass own = some m.cls) (hclink : (Cond.classLink own index ("[" ++ (FieldType.array ty).toString)).before args s = true) (hover : va_AOA ty s) (harr : (Cond.arrayClass ty).before args s = true) (hcy : s.vm.findClass (FieldType.array ty).toString = some cy)
    (hK : va_K D cl tys s) (hP : va_P D cl (X ++ va_pl L f) H) (hD : va_D A (X ++ va_pl L f)) (hS : va_S A H0 H locs) (hA : ∀ q, H0.size ≤ q → A q) {n k : Int32} {N' K' : Nat} {z : vp_A} (hn : ¬ n < 0) (hk : ¬ k < 0) (hN : n.toNatClampNeg = N') (hM : k.toNatClampNeg = K')
    (hb1 : N' * 4 ≤ 536870912) (hb2 : K' * componentBytes ty ≤ 536870912) (hb3 : K' ≤ 536870912) (hdf : fits ty (defaultValue ty) = true) (hdd : (defaultValue ty).isDefault = true) (hcells : cells + (1 + N') ≤ R.cells) (hslots : slots + (N' + N' * K') ≤ R.slots) (hz : ∀ c : ClassId, Jvm.Free.Multi.innerC c K' (defaultValue ty) = vp_cell c z) (hdg : decode cc pc = .ok (.multianewarray index 2, 4))
    (kk : ∀ (q : Nat) (r : Nat → Nat) (cA : ClassId) (H1 : Heap), (∀ i j : Nat, i < N' → j < N' → r i = r j → i = j) → (∀ i : Nat, i < N' → r i ∉ L) → va_K D cl (tys ++ [(cA, .array ty)]) s →
      va_P D cl ((X ++ [(q, .inl (cA, N', .inr (.inr (.inr (.inr (fun i => if i < N' then some (r i) else none))))))]) ++ va_pl (L ++ (List.range N').map r) (vr_up f ((List.range N').map r) (.inl (cy, z)))) H1 → va_D A ((X ++ [(q, .inl (cA, N', .inr (.inr (.inr (.inr (fun i => if i < N' then some (r i) else none))))))]) ++ va_pl (L ++ (List.range N').map r) (vr_up f ((List.range N').map r) (.inl (cy, z)))) → va_S A H0 H1 locs →
      W p l e R s m args below meth c H1 locs (cells + 1 + N') (slots + N' + N' * K') Q (F0 m (pc + 4) ls (.ref q :: rest))) : W p l e R s m args below meth c H locs cells slots Q (F0 m pc ls (.int k :: .int n :: rest)) := by
  subst hN
  subst hM
  intro T hT Xs
  obtain ⟨vm₁, cA, comp, -, fA, fC, hO, -, X', step⟩ := Xs.multianewarray2F hexec hown hclink (va_AOA.use hover) harr (g := F0 m pc ls (.int k :: .int n :: rest)) rfl (by rw [hb]; exact hdg) rfl hn hk hb1 hb2 hb3 hdf hdd hcells hslots
  have ec : some cy = some comp := hcy.symm.trans fC
  cases ec
  generalize hF : Jvm.Free.Multi.fill (T.setVm vm₁) cA cy n.toNatClampNeg k.toNatClampNeg (defaultValue ty) n.toNatClampNeg = F at X' step
  have hTh : (T.setVm vm₁).heap = H := hT
  obtain ⟨f1, f2, -, -⟩ := Jvm.Free.Multi.fill_facts (T.setVm vm₁) cA cy n.toNatClampNeg k.toNatClampNeg (defaultValue ty) n.toNatClampNeg
  rw [hF, hTh] at f1 f2
  have hold : ∀ x : Nat, x < H.size → F.heap[x]? = H[x]? := fun x hx => by
    have := Jvm.Free.Multi.fill_old (T.setVm vm₁) cA cy n.toNatClampNeg k.toNatClampNeg (defaultValue ty) (a := x) (by rw [hTh]; exact hx) n.toNatClampNeg
    rw [hF, hTh] at this
    exact this
  have hrow : ∀ j : Nat, j < n.toNatClampNeg → F.heap[H.size + 1 + j]? = some (vp_cell cy z) := fun j hj => by
    have := Jvm.Free.Multi.fill_inner (T.setVm vm₁) cA cy n.toNatClampNeg k.toNatClampNeg (defaultValue ty) n.toNatClampNeg j hj
    rw [hF, hTh, hz] at this
    exact this
  have hout : Jvm.Free.Multi.outerC cA n.toNatClampNeg H.size n.toNatClampNeg = vp_cell cA (n.toNatClampNeg, .inr (.inr (.inr (.inr (fun i => if i < n.toNatClampNeg then some (H.size + 1 + i) else none))))) := by
    rw [vp_cell_q]
    exact vr_outer cA n.toNatClampNeg H.size n.toNatClampNeg
  rw [hout] at f2
  have hlt : ∀ a, a ∈ L → a < H.size := fun a ha => by
    obtain ⟨k9, hk9⟩ := va_pl_get (X := X) (f := f) ha
    exact (hP k9 _ hk9).lt
  have hnl : ∀ i : Nat, i < n.toNatClampNeg → H.size + 1 + i ∉ L := fun i _ h => by
    have := hlt _ h
    omega
  have hnm : ∀ a, a ∈ (List.range n.toNatClampNeg).map (fun i => H.size + 1 + i) → a ∉ L := fun a ha h => by
    obtain ⟨i, -, rfl⟩ := List.mem_map.mp ha
    have := hlt _ h
    omega
  have hP0 : va_P D cl (X ++ va_pl L f) F.heap := hP.kept (fun k9 x hx => hold x.1 ((hP k9 x hx).lt))
  have hP1 : va_P D cl ((X ++ va_pl L f) ++ [(H.size, .inl (cA, n.toNatClampNeg, .inr (.inr (.inr (.inr (fun i => if i < n.toNatClampNeg then some (H.size + 1 + i) else none))))))]) F.heap := hP0.app (fun k9 x hx => by
    have h0 : k9 < 1 := (List.getElem?_eq_some_iff.mp hx).1
    rw [show k9 = 0 by omega] at hx
    cases hx
    exact f2)
  have hP2 : va_P D cl (((X ++ va_pl L f) ++ [(H.size, .inl (cA, n.toNatClampNeg, .inr (.inr (.inr (.inr (fun i => if i < n.toNatClampNeg then some (H.size + 1 + i) else none))))))]) ++ ((List.range n.toNatClampNeg).map (fun i => H.size + 1 + i)).map (fun a => (a, .inl (cy, z)))) F.heap := hP1.app (fun k9 x hx => by
    obtain ⟨a, ha, rfl⟩ := List.mem_map.mp (List.mem_of_getElem? hx)
    obtain ⟨i, hi, rfl⟩ := List.mem_map.mp ha
    exact hrow i (List.mem_range.mp hi))
  have hD2 : va_D A (((X ++ va_pl L f) ++ [(H.size, .inl (cA, n.toNatClampNeg, .inr (.inr (.inr (.inr (fun i => if i < n.toNatClampNeg then some (H.size + 1 + i) else none))))))]) ++ ((List.range n.toNatClampNeg).map (fun i => H.size + 1 + i)).map (fun a => (a, .inl (cy, z)))) := by
    have hD1 := hD.push (e := .inl (cA, n.toNatClampNeg, .inr (.inr (.inr (.inr (fun i => if i < n.toNatClampNeg then some (H.size + 1 + i) else none)))))) hP rfl (hA _ hS.1)
    generalize hW1 : (X ++ va_pl L f) ++ [(H.size, .inl (cA, n.toNatClampNeg, .inr (.inr (.inr (.inr (fun i => if i < n.toNatClampNeg then some (H.size + 1 + i) else none))))))] = W1 at hD1 hP1 ⊢
    have hle : ∀ (k9 : Nat) (x : Nat × va_E), W1[k9]? = some x → x.1 ≤ H.size := fun k9 x hx => by
      rw [← hW1] at hx
      by_cases hl : k9 < (X ++ va_pl L f).length
      · rw [List.getElem?_append_left hl] at hx
        exact Nat.le_of_lt ((hP k9 x hx).lt)
      · rw [List.getElem?_append_right (by omega)] at hx
        have h0 : k9 - (X ++ va_pl L f).length < 1 := (List.getElem?_eq_some_iff.mp hx).1
        rw [show k9 - (X ++ va_pl L f).length = 0 by omega] at hx
        cases hx
        exact Nat.le_refl _
    have hr : ∀ (k9 : Nat) (x : Nat × va_E), (((List.range n.toNatClampNeg).map (fun i => H.size + 1 + i)).map (fun a => ((a, .inl (cy, z)) : Nat × va_E)))[k9]? = some x → x.1 = H.size + 1 + k9 := fun k9 x hx => by
      rw [List.getElem?_map, List.getElem?_map] at hx
      by_cases h9 : k9 < n.toNatClampNeg
      · rw [List.getElem?_range h9] at hx
        cases hx
        rfl
      · have hn0 : (List.range n.toNatClampNeg)[k9]? = none := List.getElem?_eq_none (by rw [List.length_range]; omega)
        rw [hn0] at hx
        cases hx
    refine ⟨fun i j x y hi hj hxy => ?_, fun k9 x hx => ?_⟩
    · by_cases h1 : i < W1.length <;> by_cases h2 : j < W1.length
      · rw [List.getElem?_append_left h1] at hi
        rw [List.getElem?_append_left h2] at hj
        exact hD1.1 i j x y hi hj hxy
      · rw [List.getElem?_append_left h1] at hi
        rw [List.getElem?_append_right (by omega)] at hj
        have := hle _ _ hi
        have := hr _ _ hj
        omega
      · rw [List.getElem?_append_right (by omega)] at hi
        rw [List.getElem?_append_left h2] at hj
        have := hle _ _ hj
        have := hr _ _ hi
        omega
      · rw [List.getElem?_append_right (by omega)] at hi hj
        have := hr _ _ hi
        have := hr _ _ hj
        omega
    · by_cases h1 : k9 < W1.length
      · rw [List.getElem?_append_left h1] at hx
        exact hD1.2 k9 x hx
      · rw [List.getElem?_append_right (by omega)] at hx
        have := hr _ _ hx
        exact hA _ (by have := hS.1; omega)
  have hAr : ArrOfT s cA (.array ty) := fun N9 z9 => by
    obtain ⟨-, k9, hk9, cm9, hkk9⟩ := (hO 0 0 0).1
    exact ⟨(fun q hq => by cases hq), k9, hk9, cm9, hkk9⟩
  have hK2 : va_K D cl (tys ++ [(cA, .array ty)]) s := ⟨hK.1, fun k9 x hx => by
    by_cases hl : k9 < tys.length
    · rw [List.getElem?_append_left hl] at hx
      exact hK.2 k9 x hx
    · rw [List.getElem?_append_right (by omega)] at hx
      have h0 : k9 - tys.length < 1 := (List.getElem?_eq_some_iff.mp hx).1
      rw [show k9 - tys.length = 0 by omega] at hx
      cases hx
      exact ⟨hAr, fA⟩⟩
  obtain ⟨t, a1, b1⟩ := kk H.size (fun i => H.size + 1 + i) cA F.heap (fun i j _ _ h => by have h9 : H.size + 1 + i = H.size + 1 + j := h; omega) hnl hK2 (by rw [← vr_rows hnm]; exact vr_lay hP2) (by rw [← vr_rows hnm]; exact vr_layD hD2) ⟨by rw [f1]; have := hS.1; omega, fun x h1 h2 => (hold x (Nat.lt_of_lt_of_le h1 hS.1)).trans (hS.2.1 x h1 h2), hS.2.2⟩ F rfl X'
  refine ⟨t, step t ?_, b1⟩
  have e : T.heap.size = H.size := by rw [hT]
  rw [e]
  exact a1
end VGM
/-! ===== END ===== -/

/-! ===== BEGIN exceptions that leave a method, and their catching by the caller (launches without stack traces) ===== -/
section VXA
/-! The laws vx_back, vx_callV, vx_callS, vx_callSW, vx_throw0, vx_throwS follow proofs of the library, with one case more: JvmDerived/Free/Laws.lean (Back.of_free), Shelf42/LK1.lean (callV, callS), Shelf/KitTraced.lean (throwNew0V, throwNewS). -/
/-- where a method has thrown q: the class by its name, the cell, what was written, the world -/
def vx_T (XC : String → State → State → Prop) (st : State) (q : Addr) (t : State) (mc ms : Nat) (free : Addr → Prop) : Prop :=
  ∃ (E : String) (ce : Cell) (L : List Loc), XC E st t ∧ t.heap[q]? = some ce ∧ ce.vm = .none ∧ st.vm.findClass E = some ce.cls ∧ st.WarmedH t.vm ∧ st.sameButNew ({ t with vm := st.vm } : State) L mc ms ∧ ∀ z ∈ L, free z.base
def vx_Q (Qc : Array Value → State → Outcome → State → Prop) (XC : String → State → State → Prop) (mc ms : Nat) (free : Addr → Prop) : Array Value → State → Outcome → State → Prop := fun a st o t =>
  (Qc a st o t ∧ ∃ L, FrameEnd st o t L mc ms ∧ ∀ q ∈ L, free q.base) ∨ ∃ q, o = .threw q ∧ vx_T XC st q t mc ms free
/-- a callee that returns or throws -/
def vx_Met (l : Launch) (y : MethodName) (ws : List Cond) (rm : Room) (Pc : Array Value → State → Prop) (Qc : Array Value → State → Outcome → State → Prop) (XC : String → State → State → Prop) (mc ms : Nat) (free : Addr → Prop) : Prop :=
  MetFree l y (headSpec ws rm) Pc (fun _ _ _ _ _ => True) (vx_Q Qc XC mc ms free)
def vx_Post (XC : String → State → State → Prop) (mc ms : Nat) (free : Addr → Prop) : Pt → Array Value → Addr → Pt → Prop := fun A a q B =>
  ∃ (g : JFrame) (mk : MethodId) (t : State) (L : List Loc) (E : String) (ce : Cell), B.U.heap = t.heap ∧ B.U.vm = t.vm ∧ XC E (A.U.calling g mk a) t ∧ t.heap[q]? = some ce ∧ ce.vm = .none ∧ A.U.vm.findClass E = some ce.cls ∧ B.locs = A.locs ++ L ∧ (∀ z ∈ L, free z.base) ∧ B.cells = A.cells + mc ∧ B.slots = A.slots + ms
def vx_Back (l : Launch) (R : Room) (p : Program) (e : Env) (below : List Frame) (s : State) (sargs : Array Value) (y : MethodName) (len W9 : Nat)
    (Pre : Pt → Array Value → Prop) (Post : Pt → Array Value → Option Value → Pt → Prop) (PostX : Pt → Array Value → Addr → Pt → Prop) : Prop :=
  ∀ (m : MethodId) (meth : Method) (c : Code) (A : Pt) (g : JFrame) (ig : Instr) (mk : MethodId) (a : Array Value),
    Stand p l e R s m sargs below meth c A.U A.locs A.cells A.slots → g.method = m → g.locals.size = c.maxLocals → decode c.code g.pc = .ok (ig, len) →
    2 * g.monitorRoom + (g.stack.map fun v => v.category).sum ≤ W9 → A.U.methodNamed? y = some mk → Pre A a →
    (∃ (v : Option Value) (B : Pt), Stand p l e R s m sargs below meth c B.U B.locs B.cells B.slots ∧ Post A a v B ∧
      Steps p.tables e below (doInvoke e (A.U.setTop g) [] mk a).1 (B.U.setTop { g with pc := g.pc + len, stack := v.toList ++ g.stack })) ∨
    (∃ (q : Addr) (B : Pt), Stand p l e R s m sargs below meth c B.U B.locs B.cells B.slots ∧ PostX A a q B ∧
      Steps p.tables e below (doInvoke e (A.U.setTop g) [] mk a).1 ((B.U.setTop g).pushFrame (.throwing q)))
section Payer
variable {l : Launch} {R : Room} {p : Program} {e : Env} {below : List Frame} {s : State} {sargs : Array Value} {y : MethodName} {len W9 : Nat}
theorem vx_back {ws : List Cond} {rm : Room} {Pc : Array Value → State → Prop} {Qc : Array Value → State → Outcome → State → Prop} {XC : String → State → State → Prop} {mc ms : Nat} {free : Addr → Prop} {bytes : ByteArray} {maxL : Nat} {ret : Option FieldType}
    (hM : vx_Met l y ws rm Pc Qc XC mc ms free) (hblind : FrameBlind Pc) (hrc : rm.cells = mc) (hrs : rm.slots = ms)
    (hframes : rm.frames + 1 ≤ R.frames) (hlocals : W9 + (maxL + 11) + rm.locals ≤ R.locals)
    (hws : ∀ w ∈ ws, ∀ a' U, s.WarmedH U.vm → w.before a' U = true) (hcode : Cond.code y bytes maxL ret ∈ ws) (hinit : ∀ a' U, s.WarmedH U.vm → (Cond.initialized y.cls).before a' U = true) :
    vx_Back l R p e below s sargs y len W9 (PreOf R mc ms Pc) (PostOf Qc mc ms free) (vx_Post XC mc ms free) := by
  intro m meth c A g ig mk a X hg hsize hdg hW hn hp
  have h1 : (headSpec ws rm).pre.before a A.U = true := atoms_intro fun w hw => hws w hw _ _ X.warmed
  have h2 : (Cond.code y bytes maxL ret).before a A.U = true := hws _ hcode _ _ X.warmed
  have h3 : (Cond.initialized y.cls).before a A.U = true := hinit _ _ X.warmed
  have h4 : A.cells + (headSpec ws rm).room.cells ≤ R.cells := by rw [show (headSpec ws rm).room.cells = mc from hrc]; exact hp.1
  have h5 : A.slots + (headSpec ws rm).room.slots ≤ R.slots := by rw [show (headSpec ws rm).room.slots = ms from hrs]; exact hp.2.1
  have hPc : Pc a (A.U.calling g mk a) := hblind _ _ _ _ hp.2.2
  obtain ⟨U, Ls, c0, s0⟩ := A
  dsimp only [Pt.U, Pt.locs, Pt.cells, Pt.slots] at h1 h2 h3 h4 h5 X hn hPc ⊢
  obtain ⟨methY, cY, hmY, hcY, -, hlY, -, -, -, -⟩ := Cond.code_spec hn h2
  obtain ⟨kY, hkY, -⟩ := className_of_methodNamed hn
  have hinitY : kY.init = .initialized := Cond.initialized_spec (findClass_of_methodNamed hn) hkY h3
  have h : At U g.method c below := by rw [hg]; exact X.here
  have hlocals9 : W9 + (maxL + 11) + (headSpec ws rm).room.locals ≤ R.locals := hlocals
  have happ : (headSpec ws rm).appliesLoose y e.platform (U.calling g mk a) = true :=
    Spec.appliesLoose_calling (g := g) h hdg hn hkY hinitY
      (X.room_calling (g := g) (R' := (headSpec ws rm).room) hsize hmY hcY hframes (by rw [hlY]; omega) h4 h5) h1
  obtain ⟨mid, hmid⟩ := h.above
  have hfr : (U.setTop g).frames = (.java g :: mid) ++ below := by rw [State.frames_setTop' g h.top, hmid]; rfl
  obtain ⟨o, s₂, hsteps, -, hend, hq⟩ := Steps.callFree hM p X.admits X.cas X.clock (acts := []) hfr happ hPc trivial
  have hq' : vx_Q Qc XC mc ms free a (U.calling g mk a) o s₂ := hq
  rw [State.frames_setTop' g h.top] at hend
  obtain ⟨g₀, hg0⟩ := Option.isSome_iff_exists.mp h.top
  obtain ⟨r, hr⟩ := State.topJava?_eq_some.mp hg0
  have hr' : (({ U with heap := s₂.heap, slotsUsed := s₂.slotsUsed } : State).setVm s₂.vm).frames = .java g₀ :: r := hr
  rcases hq' with ⟨hqc, L, hfe, hL⟩ | ⟨q, rfl, E, ce, L, hx, hce, hcv, hcl, hW₂, hsm, hL⟩
  · obtain ⟨⟨v, rfl⟩, hW₂, e2, q2, q3, q4, q5, q6⟩ := id hfe
    have e3 : s₂ = ({ (U.calling g mk a).setFrames s₂.frames with heap := s₂.heap, slotsUsed := s₂.slotsUsed } : State).setVm s₂.vm := by
      have : s₂ = ({ s₂ with vm := (U.calling g mk a).vm } : State).setVm s₂.vm := rfl
      rw [e2] at this
      exact this
    obtain ⟨c₂, i₂, len₂, hc₂, hd₂, hf₂⟩ := hend
    have hW' : U.WarmedH s₂.vm := hW₂
    have hcc : c₂ = c := by
      have h1 : s₂.code? g.method = U.code? g.method := by
        rw [State.code?_eq, State.code?_eq, hW'.alike.method?]
      exact Option.some.inj (hc₂.symm.trans (h1.trans h.code))
    subst hcc
    have hlen : len₂ = len := by rw [hdg] at hd₂; cases hd₂; rfl
    subst hlen
    have hs₂ : s₂ = (({ U with heap := s₂.heap, slotsUsed := s₂.slotsUsed } : State).setVm s₂.vm).setTop { g with pc := g.pc + len₂, stack := v.toList ++ g.stack } := by
      refine e3.trans ?_
      rw [hf₂, State.calling_eq h.top, State.setFrames_setFrames, State.setTop_of_frames _ hr', hr]
      rfl
    have hsame : U.sameButNew ({ U with heap := s₂.heap, slotsUsed := s₂.slotsUsed } : State) L mc ms := by
      refine ⟨?_, q2, q3, q4, q5, q6⟩
      obtain ⟨t, ht, -⟩ := State.frames_cons hr
      show ({ U with heap := s₂.heap, slotsUsed := s₂.slotsUsed } : State) = { U.setFrames U.frames with heap := s₂.heap, slotsUsed := s₂.slotsUsed }
      rw [State.setFrames_self ht]
    subst hg
    refine Or.inl ⟨v, ⟨(({ U with heap := s₂.heap, slotsUsed := s₂.slotsUsed } : State).setVm s₂.vm), Ls ++ L, c0 + mc, s0 + ms⟩,
      ⟨X.admits, X.cas, X.clock, X.frames, X.room, X.hears, X.method, X.code, (X.here.setHeapUsed s₂.heap s₂.slotsUsed).setVm hW'.alike, X.tail, State.WarmedH.trans X.warmed hW', X.limits, X.bytes, X.same.trans (hsame.setVm s.vm)⟩,
      ⟨g, mk, s₂, L, rfl, rfl, hqc, rfl, hL, rfl, rfl⟩, ?_⟩
    show Steps p.tables e below _ ((({ U with heap := s₂.heap, slotsUsed := s₂.slotsUsed } : State).setVm s₂.vm).setTop { g with pc := g.pc + len₂, stack := v.toList ++ g.stack })
    rw [← hs₂]
    exact hsteps
  · obtain ⟨e2, q2, q3, q4, q5, q6⟩ := id hsm
    have e3 : s₂ = ({ (U.calling g mk a).setFrames s₂.frames with heap := s₂.heap, slotsUsed := s₂.slotsUsed } : State).setVm s₂.vm := by
      have : s₂ = ({ s₂ with vm := (U.calling g mk a).vm } : State).setVm s₂.vm := rfl
      rw [e2] at this
      exact this
    have hf₂ : s₂.frames = .throwing q :: .java g :: U.frames.tail := hend
    have hW' : U.WarmedH s₂.vm := hW₂
    have hs₂ : s₂ = ((({ U with heap := s₂.heap, slotsUsed := s₂.slotsUsed } : State).setVm s₂.vm).setTop g).pushFrame (.throwing q) := by
      refine e3.trans ?_
      rw [hf₂, State.calling_eq h.top, State.setFrames_setFrames, State.pushFrame, State.frames_setTop _ hr', State.setTop_of_frames _ hr', State.setFrames_setFrames, hr]
      rfl
    have hsame : U.sameButNew ({ U with heap := s₂.heap, slotsUsed := s₂.slotsUsed } : State) L mc ms := by
      refine ⟨?_, q2, q3, q4, q5, q6⟩
      obtain ⟨t, ht, -⟩ := State.frames_cons hr
      show ({ U with heap := s₂.heap, slotsUsed := s₂.slotsUsed } : State) = { U.setFrames U.frames with heap := s₂.heap, slotsUsed := s₂.slotsUsed }
      rw [State.setFrames_self ht]
    subst hg
    refine Or.inr ⟨q, ⟨(({ U with heap := s₂.heap, slotsUsed := s₂.slotsUsed } : State).setVm s₂.vm), Ls ++ L, c0 + mc, s0 + ms⟩,
      ⟨X.admits, X.cas, X.clock, X.frames, X.room, X.hears, X.method, X.code, (X.here.setHeapUsed s₂.heap s₂.slotsUsed).setVm hW'.alike, X.tail, State.WarmedH.trans X.warmed hW', X.limits, X.bytes, X.same.trans (hsame.setVm s.vm)⟩,
      ⟨g, mk, s₂, L, E, ce, rfl, rfl, hx, hce, hcv, hcl, rfl, hL, rfl, rfl⟩, ?_⟩
    show Steps p.tables e below _ (((({ U with heap := s₂.heap, slotsUsed := s₂.slotsUsed } : State).setVm s₂.vm).setTop g).pushFrame (.throwing q))
    rw [← hs₂]
    exact hsteps
end Payer
section Calls
variable {p : Program} {l : Launch} {e : Env} {R : Room} {s : State} {m : MethodId} {args : Array Value} {below : List Frame} {meth : Method} {c : Code} {T : State} {locs : List Loc} {cells slots : Nat}
theorem vx_callV (X : Stand p l e R s m args below meth c T locs cells slots) (hexec : p.tables.exec = Jvm.exec) {own C : String} {index : Nat} {y : MethodName} {bytes : ByteArray} {maxL : Nat} {ret : Option FieldType}
    (hown : s.vm.findClass own = some m.cls) (hlink : (Cond.methodLink own index y).before args s = true) (hinst : (Cond.instanceMethod y).before args s = true) (hsel : (Cond.selects C y y).before args s = true)
    (hcode : (Cond.code y bytes maxL ret).before args s = true) (hy : y.cls ≠ "java/lang/invoke/MethodHandle" ∧ y.cls ≠ "java/lang/invoke/VarHandle")
    {W9 : Nat} {Pre : Pt → Array Value → Prop} {Post : Pt → Array Value → Option Value → Pt → Prop} {PostX : Pt → Array Value → Addr → Pt → Prop} (hK : vx_Back l R p e below s args y 3 W9 Pre Post PostX)
    {b : Addr} {cellB : Cell} (hcell : T.heap[b]? = some cellB) (hobj : cellB.vm.isStatics = false) (hcls : s.vm.findClass C = some cellB.cls)
    {g : JFrame} (hg : g.method = m) (hsize : g.locals.size = c.maxLocals) {argsL rest : List Value} (hlen : ∀ sig, parseMethodDescriptor y.desc = some sig → argsL.length = sig.parameters.length)
    (hstack : g.stack = argsL.reverse ++ .ref b :: rest) (hW : 2 * g.monitorRoom + (rest.map fun v => v.category).sum ≤ W9) (hdg : decode c.code g.pc = .ok (.invokevirtual index, 3))
    (hpre : ∀ vm₁, s.WarmedH vm₁ → Pre ⟨T.setVm vm₁, locs, cells, slots⟩ (Value.ref b :: argsL).toArray) :
    (∃ (v : Option Value) (vm₁ : Vm) (B : Pt), s.WarmedH vm₁ ∧ Stand p l e R s m args below meth c B.U B.locs B.cells B.slots ∧ Post ⟨T.setVm vm₁, locs, cells, slots⟩ (Value.ref b :: argsL).toArray v B ∧
      ∀ target, Steps p.tables e below (B.U.setTop { g with pc := g.pc + 3, stack := v.toList ++ rest }) target → Steps p.tables e below (T.setTop g) target) ∨
    (∃ (q : Addr) (vm₁ : Vm) (B : Pt), s.WarmedH vm₁ ∧ Stand p l e R s m args below meth c B.U B.locs B.cells B.slots ∧ PostX ⟨T.setVm vm₁, locs, cells, slots⟩ (Value.ref b :: argsL).toArray q B ∧
      Steps p.tables e below (T.setTop g) ((B.U.setTop { g with stack := rest }).pushFrame (.throwing q))) := by
  obtain ⟨mk, methM, hnamed, hmethM, hstM, habM⟩ := Cond.instanceMethod_spec hinst
  obtain ⟨methM', cM, hmethM', -, -, -, -, -, -, hsigM⟩ := Cond.code_spec hnamed hcode
  cases hmethM.symm.trans hmethM'
  obtain ⟨c2, r2, m2, q1, q2, q3, q4, kP, hkP, hkPi⟩ := Cond.selects_spec hsel
  cases hcls.symm.trans q1
  cases (State.methodFound?_of_named hnamed hy).symm.trans q2
  cases hnamed.symm.trans q3
  have hselP : selectMethod e.platform s.vm cellB.cls mk = .method mk := by rw [Launch.admits_selectMethod X.admits]; exact q4
  obtain ⟨vm₁, X₁, hstep₁⟩ := X.invokevirtual hexec hown hlink hnamed hmethM hstM hkP hkPi hy (a := b) (cell := cellB) hcell
    (fun z h => by rw [h] at hobj; cases hobj) hselP hmethM habM hkP hkPi (g := g) hg (argsL := argsL) (rest := rest) (hlen _ hsigM) hstack hdg
  rcases hK m meth c ⟨T.setVm vm₁, locs, cells, slots⟩ { g with stack := rest } (.invokevirtual index) mk (Value.ref b :: argsL).toArray X₁ hg hsize hdg hW (X₁.named hnamed) (hpre vm₁ X₁.warmed) with ⟨v, B, X', hpost, hsteps⟩ | ⟨q, B, X', hpost, hsteps⟩
  · exact Or.inl ⟨v, vm₁, B, X₁.warmed, X', hpost, fun target h => hstep₁ _ fun acts => by rw [doInvoke_state]; exact hsteps.trans h⟩
  · exact Or.inr ⟨q, vm₁, B, X₁.warmed, X', hpost, hstep₁ _ fun acts => by rw [doInvoke_state]; exact hsteps⟩
theorem vx_callS (X : Stand p l e R s m args below meth c T locs cells slots) (hexec : p.tables.exec = Jvm.exec) {own : String} {index : Nat} {y : MethodName} {bytes : ByteArray} {maxL : Nat} {ret : Option FieldType}
    (hown : s.vm.findClass own = some m.cls) (hlink : (Cond.methodLink own index y).before args s = true) (hstat : (Cond.static y).before args s = true) (hinit : (Cond.initialized y.cls).before args s = true)
    (hcode : (Cond.code y bytes maxL ret).before args s = true) (hy : y.cls ≠ "java/lang/invoke/MethodHandle" ∧ y.cls ≠ "java/lang/invoke/VarHandle")
    {W9 : Nat} {Pre : Pt → Array Value → Prop} {Post : Pt → Array Value → Option Value → Pt → Prop} {PostX : Pt → Array Value → Addr → Pt → Prop} (hK : vx_Back l R p e below s args y 3 W9 Pre Post PostX)
    {g : JFrame} (hg : g.method = m) (hsize : g.locals.size = c.maxLocals) {argsL rest : List Value} (hlen : ∀ sig, parseMethodDescriptor y.desc = some sig → argsL.length = sig.parameters.length)
    (hstack : g.stack = argsL.reverse ++ rest) (hW : 2 * g.monitorRoom + (rest.map fun v => v.category).sum ≤ W9) (hdg : decode c.code g.pc = .ok (.invokestatic index, 3))
    (hpre : ∀ vm₁, s.WarmedH vm₁ → Pre ⟨T.setVm vm₁, locs, cells, slots⟩ argsL.toArray) :
    (∃ (v : Option Value) (vm₁ : Vm) (B : Pt), s.WarmedH vm₁ ∧ Stand p l e R s m args below meth c B.U B.locs B.cells B.slots ∧ Post ⟨T.setVm vm₁, locs, cells, slots⟩ argsL.toArray v B ∧
      ∀ target, Steps p.tables e below (B.U.setTop { g with pc := g.pc + 3, stack := v.toList ++ rest }) target → Steps p.tables e below (T.setTop g) target) ∨
    (∃ (q : Addr) (vm₁ : Vm) (B : Pt), s.WarmedH vm₁ ∧ Stand p l e R s m args below meth c B.U B.locs B.cells B.slots ∧ PostX ⟨T.setVm vm₁, locs, cells, slots⟩ argsL.toArray q B ∧
      Steps p.tables e below (T.setTop g) ((B.U.setTop { g with stack := rest }).pushFrame (.throwing q))) := by
  obtain ⟨mk, hnamed⟩ := Cond.code_named hcode
  obtain ⟨methM, cM, hmethM, -, -, -, -, -, -, hsigM⟩ := Cond.code_spec hnamed hcode
  have hstatic : methM.isStatic = true := Cond.static_spec hnamed hmethM hstat
  obtain ⟨kP, hkP, -⟩ := className_of_methodNamed hnamed
  have hinitP : kP.init = .initialized := Cond.initialized_spec (findClass_of_methodNamed hnamed) hkP hinit
  obtain ⟨vm₁, X₁, hstep₁⟩ := X.invokestatic hexec hown hlink hnamed hmethM hstatic hkP hinitP hy (g := g) hg (argsL := argsL) (rest := rest) (hlen _ hsigM) hstack hdg
  rcases hK m meth c ⟨T.setVm vm₁, locs, cells, slots⟩ { g with stack := rest } (.invokestatic index) mk argsL.toArray X₁ hg hsize hdg hW (X₁.named hnamed) (hpre vm₁ X₁.warmed) with ⟨v, B, X', hpost, hsteps⟩ | ⟨q, B, X', hpost, hsteps⟩
  · exact Or.inl ⟨v, vm₁, B, X₁.warmed, X', hpost, fun target h => hstep₁ _ fun acts => by rw [doInvoke_state]; exact hsteps.trans h⟩
  · exact Or.inr ⟨q, vm₁, B, X₁.warmed, X', hpost, hstep₁ _ fun acts => by rw [doInvoke_state]; exact hsteps⟩
end Calls
theorem vx_cls {s : State} {T : State} {vm₁ : Vm} {E : String} {k : ClassId} (hW : s.WarmedH vm₁) (h : (T.setVm vm₁).vm.findClass E = some k) : s.vm.findClass E = some k := by
  have h1 : vm₁.findClass E = some k := h
  rw [hW.alike.findClass] at h1
  exact h1
/-- the method's frame g, with q thrown over it -/
def vx_W (p : Program) (l : Launch) (e : Env) (R : Room) (s : State) (m : MethodId) (args : Array Value) (below : List Frame) (meth : Method) (c : Code) (H : Heap) (locs : List Loc) (cells slots : Nat) (Q : State → Prop) (g : JFrame) (q : Addr) : Prop :=
  ∀ T : State, T.heap = H → Stand p l e R s m args below meth c T locs cells slots → ∃ t, Steps p.tables e below ((T.setTop g).pushFrame (.throwing q)) t ∧ Q t
def vx_Run (p : Program) (l : Launch) (e : Env) (R : Room) (s : State) (m : MethodId) (args : Array Value) (below : List Frame) (meth : Method) (c : Code) (H : Heap) (locs : List Loc) (cells slots mc ms : Nat) (g : JFrame) (rest : List Value) (Qa : State → Outcome → State → Prop) (XC : String → State → State → Prop) (free : Addr → Prop) : Prop :=
  ∀ T : State, T.heap = H → Stand p l e R s m args below meth c T locs cells slots →
    (∃ (v : Option Value) (st₀ t T' : State) (L : List Loc), st₀.heap = H ∧ Stand p l e R s m args below meth c T' (locs ++ L) (cells + mc) (slots + ms) ∧ (∀ q ∈ L, free q.base) ∧ T'.heap = t.heap ∧ T'.vm = t.vm ∧ Qa st₀ (.returned v) t ∧
      Goes p e below T g T' { g with pc := g.pc + 3, stack := v.toList ++ rest }) ∨
    (∃ (q : Addr) (st₀ t T' : State) (L : List Loc) (E : String) (ce : Cell), st₀.heap = H ∧ Stand p l e R s m args below meth c T' (locs ++ L) (cells + mc) (slots + ms) ∧ (∀ z ∈ L, free z.base) ∧ T'.heap = t.heap ∧ T'.vm = t.vm ∧ XC E st₀ t ∧ t.heap[q]? = some ce ∧ ce.vm = .none ∧ s.vm.findClass E = some ce.cls ∧
      Steps p.tables e below (T.setTop g) ((T'.setTop { g with stack := rest }).pushFrame (.throwing q)))
def vx_X {S : Type} (px : S → Prop) (B : String → S → State → Prop) (A : Nat → Prop) : String → State → State → Prop := fun E st t => ∃ u : S, px u ∧ B E u t ∧ va_F A st t
section Runs
variable {p : Program} {l : Launch} {e : Env} {R : Room} {s : State} {m : MethodId} {args : Array Value} {below : List Frame} {meth : Method} {c : Code} {H : Heap} {locs : List Loc} {cells slots : Nat}
variable {y : MethodName} {bytes cc : ByteArray} {maxL nL mc ms n index : Nat} {ret : Option FieldType} {ws : List Cond} {rm : Room} {Pc : Array Value → State → Prop} {Qc : Array Value → State → Outcome → State → Prop} {XC : String → State → State → Prop} {free : Addr → Prop} {Ts : List Cond} {own C : String} {b : Addr} {As rest : List Value} {g : JFrame}
theorem vx_callBack (cb : CallB R s args own index y bytes maxL ret ws rm mc ms n) (hM : vx_Met l y ws rm Pc Qc XC mc ms free) (hbl : FrameBlind Pc) : vx_Back l R p e below s args y 3 8 (PreOf R mc ms Pc) (PostOf Qc mc ms free) (vx_Post XC mc ms free) := by
  obtain ⟨hrc, hrs, hfr, hlo, hws, hcw, -, hini, -⟩ := cb
  exact vx_back (bytes := bytes) (maxL := maxL) (ret := ret) hM hbl hrc hrs hfr hlo hws hcw (fun a' U hW => word_at hW (Or.inl (by first | rfl | simp [Cond.onTables, Cond.keeps, Cond.steady])) hini)
theorem vx_runV (S : CallFix p m c cc nL s args Ts own) (hM : vx_Met l y ws rm Pc Qc XC mc ms free) (cw : CallW R s args own C index y bytes maxL ret ws rm mc ms n) (hp : PreV s H C b Pc As)
    (hg : g.method = m) (hn : As.length = n) (hsize : g.locals.size = nL) (hstack : g.stack = As.reverse ++ .ref b :: rest) (hW : 2 * g.monitorRoom + (rest.map fun v => v.category).sum ≤ 8) (hdg : decode cc g.pc = .ok (.invokevirtual index, 3)) (hf : cells + mc ≤ R.cells ∧ slots + ms ≤ R.slots) :
    vx_Run p l e R s m args below meth c H locs cells slots mc ms g rest (Qc (Value.ref b :: As).toArray) XC free := by
  have hK : vx_Back l R p e below s args y 3 8 (PreOf R mc ms Pc) (PostOf Qc mc ms free) (vx_Post XC mc ms free) := vx_callBack cw.1 hM hp.1
  obtain ⟨⟨-, -, -, -, -, -, hcode, -, hy, hlen, hl⟩, hin, hse⟩ := cw
  obtain ⟨hx, hb, hml, ho, -⟩ := S
  obtain ⟨-, ⟨cellB, hcB, hoB, hclB⟩, hPc⟩ := hp
  intro T hT X
  rcases vx_callV X hx (C := C) (bytes := bytes) (maxL := maxL) (ret := ret) ho hl hin hse hcode hy hK (by rw [hT]; exact hcB) hoB hclB hg (hsize.trans hml.symm) (argsL := As) (rest := rest) (fun sig h => hn.trans (hlen sig h)) hstack hW (by rw [hb]; exact hdg)
    (fun vm₁ hW₁ => ⟨hf.1, hf.2, hPc (T.setVm vm₁) hT hW₁⟩) with ⟨v, vm₁, ⟨U', l2, c2, s2⟩, hW₁, X', ⟨g', mk, t, L, e1, e2, hq, h1, hL, h2, h3⟩, st⟩ | ⟨q, vm₁, ⟨U', l2, c2, s2⟩, hW₁, X', ⟨g', mk, t, L, E, ce, e1, e2, hq, hce, hcv, hcl, h1, hL, h2, h3⟩, st⟩
  · dsimp only [Pt.U, Pt.locs, Pt.cells, Pt.slots] at X' e1 e2 h1 h2 h3 st
    subst h1; subst h2; subst h3
    exact Or.inl ⟨v, (T.setVm vm₁).calling g' mk (Value.ref b :: As).toArray, t, U', L, hT, X', hL, e1, e2, hq, st⟩
  · dsimp only [Pt.U, Pt.locs, Pt.cells, Pt.slots] at X' e1 e2 h1 h2 h3 st hcl
    subst h1; subst h2; subst h3
    exact Or.inr ⟨q, (T.setVm vm₁).calling g' mk (Value.ref b :: As).toArray, t, U', L, E, ce, hT, X', hL, e1, e2, hq, hce, hcv, vx_cls hW₁ hcl, st⟩
theorem vx_runS (S : CallFix p m c cc nL s args Ts own) (hM : vx_Met l y ws rm Pc Qc XC mc ms free) (cw : CallB R s args own index y bytes maxL ret ws rm mc ms n ∧ (Cond.static y).before args s = true) (hp : PreS s H Pc As)
    (hg : g.method = m) (hn : As.length = n) (hsize : g.locals.size = nL) (hstack : g.stack = As.reverse ++ rest) (hW : 2 * g.monitorRoom + (rest.map fun v => v.category).sum ≤ 8) (hdg : decode cc g.pc = .ok (.invokestatic index, 3)) (hf : cells + mc ≤ R.cells ∧ slots + ms ≤ R.slots) :
    vx_Run p l e R s m args below meth c H locs cells slots mc ms g rest (Qc As.toArray) XC free := by
  have hK : vx_Back l R p e below s args y 3 8 (PreOf R mc ms Pc) (PostOf Qc mc ms free) (vx_Post XC mc ms free) := vx_callBack cw.1 hM hp.1
  obtain ⟨⟨-, -, -, -, -, -, hcode, hini, hy, hlen, hl⟩, hstt⟩ := cw
  obtain ⟨hx, hb, hml, ho, -⟩ := S
  intro T hT X
  rcases vx_callS X hx (bytes := bytes) (maxL := maxL) (ret := ret) ho hl hstt hini hcode hy hK hg (hsize.trans hml.symm) (argsL := As) (rest := rest) (fun sig h => hn.trans (hlen sig h)) hstack hW (by rw [hb]; exact hdg)
    (fun vm₁ hW₁ => ⟨hf.1, hf.2, hp.2 (T.setVm vm₁) hT hW₁⟩) with ⟨v, vm₁, ⟨U', l2, c2, s2⟩, hW₁, X', ⟨g', mk, t, L, e1, e2, hq, h1, hL, h2, h3⟩, st⟩ | ⟨q, vm₁, ⟨U', l2, c2, s2⟩, hW₁, X', ⟨g', mk, t, L, E, ce, e1, e2, hq, hce, hcv, hcl, h1, hL, h2, h3⟩, st⟩
  · dsimp only [Pt.U, Pt.locs, Pt.cells, Pt.slots] at X' e1 e2 h1 h2 h3 st
    subst h1; subst h2; subst h3
    exact Or.inl ⟨v, (T.setVm vm₁).calling g' mk As.toArray, t, U', L, hT, X', hL, e1, e2, hq, st⟩
  · dsimp only [Pt.U, Pt.locs, Pt.cells, Pt.slots] at X' e1 e2 h1 h2 h3 st hcl
    subst h1; subst h2; subst h3
    exact Or.inr ⟨q, (T.setVm vm₁).calling g' mk As.toArray, t, U', L, E, ce, hT, X', hL, e1, e2, hq, hce, hcv, vx_cls hW₁ hcl, st⟩
end Runs
section Rows
variable {p : Program} {l : Launch} {e : Env} {R : Room} {s : State} {m : MethodId} {args : Array Value} {below : List Frame} {meth : Method} {c : Code} {H : Heap} {locs : List Loc} {cells slots : Nat} {Q : State → Prop}
variable {mc ms : Nat} {free : Addr → Prop} {A0 A1 : Nat → Prop} {H0 : Heap} {a : Array Value} {pc : Nat} {ls : Array Slot} {st0 rest : List Value}
theorem vx_keep {st₀ t T' : State} {L : List Loc} (h0 : st₀.heap = H) (e1 : T'.heap = t.heap) (hS : va_S A0 H0 H locs) (hA : ∀ q, q < H.size → A1 q → A0 q) (hf : ∀ q, free q → A0 q) (hL : ∀ q ∈ L, free q.base) (hF : va_F A1 st₀ t) :
    H.size ≤ T'.heap.size ∧ (∀ q : Nat, q < H.size → ¬ A1 q → T'.heap[q]? = H[q]?) ∧ va_S A0 H0 T'.heap (locs ++ L) := by
  obtain ⟨hz, hk⟩ := hF
  rw [h0] at hz hk
  exact ⟨by rw [e1]; exact hz, fun q h1 h2 => by rw [e1]; exact hk q h1 h2,
    ⟨Nat.le_trans hS.1 (by rw [e1]; exact hz), fun q h1 h2 => by rw [e1, hk q (Nat.lt_of_lt_of_le h1 hS.1) (fun z => h2 (hA q (Nat.lt_of_lt_of_le h1 hS.1) z))]; exact hS.2.1 q h1 h2, fun q hq => by
      rcases List.mem_append.mp hq with h | h
      · exact hS.2.2 q h
      · exact hf _ (hL q h)⟩⟩
theorem vx_calli {S SX : Type} {post : Int32 → S → Prop} {px : SX → Prop} {B : S → State → Prop} {BX : String → SX → State → Prop} {AX : Nat → Prop} (hr : vx_Run p l e R s m args below meth c H locs cells slots mc ms (F0 m pc ls st0) rest (va_Qi post B A1 a) (vx_X px BX AX) free) (hS : va_S A0 H0 H locs) (hA : ∀ q, q < H.size → A1 q → A0 q) (hf : ∀ q, free q → A0 q) (hAX : ∀ q, q < H.size → AX q → A0 q)
    (kx : ∀ (E : String) (ce : Cell) (q9 : Addr) (u : SX) (t : State) (H1 : Heap) (locs1 : List Loc), t.heap = H1 → s.vm.Alike t.vm → px u → BX E u t → H.size ≤ H1.size → (∀ q : Nat, q < H.size → ¬ AX q → H1[q]? = H[q]?) → va_S A0 H0 H1 locs1 → H1[q9]? = some ce → ce.vm = .none → s.vm.findClass E = some ce.cls → vx_W p l e R s m args below meth c H1 locs1 (cells + mc) (slots + ms) Q (F0 m pc ls rest) q9)
    (kk : ∀ (r : Int32) (u : S) (t : State) (H1 : Heap) (locs1 : List Loc), t.heap = H1 → s.vm.Alike t.vm → post r u → B u t → H.size ≤ H1.size → (∀ q : Nat, q < H.size → ¬ A1 q → H1[q]? = H[q]?) → va_S A0 H0 H1 locs1 → W p l e R s m args below meth c H1 locs1 (cells + mc) (slots + ms) Q (F0 m (pc + 3) ls (.int r :: rest))) : W p l e R s m args below meth c H locs cells slots Q (F0 m pc ls st0) := by
  intro T hT X
  rcases hr T hT X with ⟨v, st₀, t, T', L, h0, X', hL, e1, e2, ⟨⟨r, u, hv, hp, hb⟩, hF⟩, st⟩ | ⟨q, st₀, t, T', L, E, ce, h0, X', hL, e1, e2, ⟨u, hp, hb, hF⟩, hce, hcv, hcl, st⟩
  · cases hv
    obtain ⟨k1, k2, k3⟩ := vx_keep h0 e1 hS hA hf hL hF
    obtain ⟨t2, a1, b1⟩ := kk r u t T'.heap (locs ++ L) e1.symm (by rw [← e2]; exact X'.warmed.alike) hp hb k1 k2 k3 T' rfl X'
    exact ⟨t2, st t2 a1, b1⟩
  · obtain ⟨k1, k2, k3⟩ := vx_keep h0 e1 hS hAX hf hL hF
    obtain ⟨t2, a1, b1⟩ := kx E ce q u t T'.heap (locs ++ L) e1.symm (by rw [← e2]; exact X'.warmed.alike) hp hb k1 k2 k3 (by rw [e1]; exact hce) hcv hcl T' rfl X'
    exact ⟨t2, st.trans a1, b1⟩
theorem vx_calll {S SX : Type} {post : Int64 → S → Prop} {px : SX → Prop} {B : S → State → Prop} {BX : String → SX → State → Prop} {AX : Nat → Prop} (hr : vx_Run p l e R s m args below meth c H locs cells slots mc ms (F0 m pc ls st0) rest (va_Ql post B A1 a) (vx_X px BX AX) free) (hS : va_S A0 H0 H locs) (hA : ∀ q, q < H.size → A1 q → A0 q) (hf : ∀ q, free q → A0 q) (hAX : ∀ q, q < H.size → AX q → A0 q)
    (kx : ∀ (E : String) (ce : Cell) (q9 : Addr) (u : SX) (t : State) (H1 : Heap) (locs1 : List Loc), t.heap = H1 → s.vm.Alike t.vm → px u → BX E u t → H.size ≤ H1.size → (∀ q : Nat, q < H.size → ¬ AX q → H1[q]? = H[q]?) → va_S A0 H0 H1 locs1 → H1[q9]? = some ce → ce.vm = .none → s.vm.findClass E = some ce.cls → vx_W p l e R s m args below meth c H1 locs1 (cells + mc) (slots + ms) Q (F0 m pc ls rest) q9)
    (kk : ∀ (r : Int64) (u : S) (t : State) (H1 : Heap) (locs1 : List Loc), t.heap = H1 → s.vm.Alike t.vm → post r u → B u t → H.size ≤ H1.size → (∀ q : Nat, q < H.size → ¬ A1 q → H1[q]? = H[q]?) → va_S A0 H0 H1 locs1 → W p l e R s m args below meth c H1 locs1 (cells + mc) (slots + ms) Q (F0 m (pc + 3) ls (.long r :: rest))) : W p l e R s m args below meth c H locs cells slots Q (F0 m pc ls st0) := by
  intro T hT X
  rcases hr T hT X with ⟨v, st₀, t, T', L, h0, X', hL, e1, e2, ⟨⟨r, u, hv, hp, hb⟩, hF⟩, st⟩ | ⟨q, st₀, t, T', L, E, ce, h0, X', hL, e1, e2, ⟨u, hp, hb, hF⟩, hce, hcv, hcl, st⟩
  · cases hv
    obtain ⟨k1, k2, k3⟩ := vx_keep h0 e1 hS hA hf hL hF
    obtain ⟨t2, a1, b1⟩ := kk r u t T'.heap (locs ++ L) e1.symm (by rw [← e2]; exact X'.warmed.alike) hp hb k1 k2 k3 T' rfl X'
    exact ⟨t2, st t2 a1, b1⟩
  · obtain ⟨k1, k2, k3⟩ := vx_keep h0 e1 hS hAX hf hL hF
    obtain ⟨t2, a1, b1⟩ := kx E ce q u t T'.heap (locs ++ L) e1.symm (by rw [← e2]; exact X'.warmed.alike) hp hb k1 k2 k3 (by rw [e1]; exact hce) hcv hcl T' rfl X'
    exact ⟨t2, st.trans a1, b1⟩
theorem vx_callf {S SX : Type} {post : UInt32 → S → Prop} {px : SX → Prop} {B : S → State → Prop} {BX : String → SX → State → Prop} {AX : Nat → Prop} (hr : vx_Run p l e R s m args below meth c H locs cells slots mc ms (F0 m pc ls st0) rest (va_Qf post B A1 a) (vx_X px BX AX) free) (hS : va_S A0 H0 H locs) (hA : ∀ q, q < H.size → A1 q → A0 q) (hf : ∀ q, free q → A0 q) (hAX : ∀ q, q < H.size → AX q → A0 q)
    (kx : ∀ (E : String) (ce : Cell) (q9 : Addr) (u : SX) (t : State) (H1 : Heap) (locs1 : List Loc), t.heap = H1 → s.vm.Alike t.vm → px u → BX E u t → H.size ≤ H1.size → (∀ q : Nat, q < H.size → ¬ AX q → H1[q]? = H[q]?) → va_S A0 H0 H1 locs1 → H1[q9]? = some ce → ce.vm = .none → s.vm.findClass E = some ce.cls → vx_W p l e R s m args below meth c H1 locs1 (cells + mc) (slots + ms) Q (F0 m pc ls rest) q9)
    (kk : ∀ (r : UInt32) (u : S) (t : State) (H1 : Heap) (locs1 : List Loc), t.heap = H1 → s.vm.Alike t.vm → post r u → B u t → H.size ≤ H1.size → (∀ q : Nat, q < H.size → ¬ A1 q → H1[q]? = H[q]?) → va_S A0 H0 H1 locs1 → W p l e R s m args below meth c H1 locs1 (cells + mc) (slots + ms) Q (F0 m (pc + 3) ls (.float r :: rest))) : W p l e R s m args below meth c H locs cells slots Q (F0 m pc ls st0) := by
  intro T hT X
  rcases hr T hT X with ⟨v, st₀, t, T', L, h0, X', hL, e1, e2, ⟨⟨r, u, hv, hp, hb⟩, hF⟩, st⟩ | ⟨q, st₀, t, T', L, E, ce, h0, X', hL, e1, e2, ⟨u, hp, hb, hF⟩, hce, hcv, hcl, st⟩
  · cases hv
    obtain ⟨k1, k2, k3⟩ := vx_keep h0 e1 hS hA hf hL hF
    obtain ⟨t2, a1, b1⟩ := kk r u t T'.heap (locs ++ L) e1.symm (by rw [← e2]; exact X'.warmed.alike) hp hb k1 k2 k3 T' rfl X'
    exact ⟨t2, st t2 a1, b1⟩
  · obtain ⟨k1, k2, k3⟩ := vx_keep h0 e1 hS hAX hf hL hF
    obtain ⟨t2, a1, b1⟩ := kx E ce q u t T'.heap (locs ++ L) e1.symm (by rw [← e2]; exact X'.warmed.alike) hp hb k1 k2 k3 (by rw [e1]; exact hce) hcv hcl T' rfl X'
    exact ⟨t2, st.trans a1, b1⟩
theorem vx_calld {S SX : Type} {post : UInt64 → S → Prop} {px : SX → Prop} {B : S → State → Prop} {BX : String → SX → State → Prop} {AX : Nat → Prop} (hr : vx_Run p l e R s m args below meth c H locs cells slots mc ms (F0 m pc ls st0) rest (va_Qd post B A1 a) (vx_X px BX AX) free) (hS : va_S A0 H0 H locs) (hA : ∀ q, q < H.size → A1 q → A0 q) (hf : ∀ q, free q → A0 q) (hAX : ∀ q, q < H.size → AX q → A0 q)
    (kx : ∀ (E : String) (ce : Cell) (q9 : Addr) (u : SX) (t : State) (H1 : Heap) (locs1 : List Loc), t.heap = H1 → s.vm.Alike t.vm → px u → BX E u t → H.size ≤ H1.size → (∀ q : Nat, q < H.size → ¬ AX q → H1[q]? = H[q]?) → va_S A0 H0 H1 locs1 → H1[q9]? = some ce → ce.vm = .none → s.vm.findClass E = some ce.cls → vx_W p l e R s m args below meth c H1 locs1 (cells + mc) (slots + ms) Q (F0 m pc ls rest) q9)
    (kk : ∀ (r : UInt64) (u : S) (t : State) (H1 : Heap) (locs1 : List Loc), t.heap = H1 → s.vm.Alike t.vm → post r u → B u t → H.size ≤ H1.size → (∀ q : Nat, q < H.size → ¬ A1 q → H1[q]? = H[q]?) → va_S A0 H0 H1 locs1 → W p l e R s m args below meth c H1 locs1 (cells + mc) (slots + ms) Q (F0 m (pc + 3) ls (.double r :: rest))) : W p l e R s m args below meth c H locs cells slots Q (F0 m pc ls st0) := by
  intro T hT X
  rcases hr T hT X with ⟨v, st₀, t, T', L, h0, X', hL, e1, e2, ⟨⟨r, u, hv, hp, hb⟩, hF⟩, st⟩ | ⟨q, st₀, t, T', L, E, ce, h0, X', hL, e1, e2, ⟨u, hp, hb, hF⟩, hce, hcv, hcl, st⟩
  · cases hv
    obtain ⟨k1, k2, k3⟩ := vx_keep h0 e1 hS hA hf hL hF
    obtain ⟨t2, a1, b1⟩ := kk r u t T'.heap (locs ++ L) e1.symm (by rw [← e2]; exact X'.warmed.alike) hp hb k1 k2 k3 T' rfl X'
    exact ⟨t2, st t2 a1, b1⟩
  · obtain ⟨k1, k2, k3⟩ := vx_keep h0 e1 hS hAX hf hL hF
    obtain ⟨t2, a1, b1⟩ := kx E ce q u t T'.heap (locs ++ L) e1.symm (by rw [← e2]; exact X'.warmed.alike) hp hb k1 k2 k3 (by rw [e1]; exact hce) hcv hcl T' rfl X'
    exact ⟨t2, st.trans a1, b1⟩
theorem vx_callv {S SX : Type} {post : S → Prop} {px : SX → Prop} {B : S → State → Prop} {BX : String → SX → State → Prop} {AX : Nat → Prop} (hr : vx_Run p l e R s m args below meth c H locs cells slots mc ms (F0 m pc ls st0) rest (va_Qv post B A1 a) (vx_X px BX AX) free) (hS : va_S A0 H0 H locs) (hA : ∀ q, q < H.size → A1 q → A0 q) (hf : ∀ q, free q → A0 q) (hAX : ∀ q, q < H.size → AX q → A0 q)
    (kx : ∀ (E : String) (ce : Cell) (q9 : Addr) (u : SX) (t : State) (H1 : Heap) (locs1 : List Loc), t.heap = H1 → s.vm.Alike t.vm → px u → BX E u t → H.size ≤ H1.size → (∀ q : Nat, q < H.size → ¬ AX q → H1[q]? = H[q]?) → va_S A0 H0 H1 locs1 → H1[q9]? = some ce → ce.vm = .none → s.vm.findClass E = some ce.cls → vx_W p l e R s m args below meth c H1 locs1 (cells + mc) (slots + ms) Q (F0 m pc ls rest) q9)
    (kk : ∀ (u : S) (t : State) (H1 : Heap) (locs1 : List Loc), t.heap = H1 → s.vm.Alike t.vm → post u → B u t → H.size ≤ H1.size → (∀ q : Nat, q < H.size → ¬ A1 q → H1[q]? = H[q]?) → va_S A0 H0 H1 locs1 → W p l e R s m args below meth c H1 locs1 (cells + mc) (slots + ms) Q (F0 m (pc + 3) ls (rest))) : W p l e R s m args below meth c H locs cells slots Q (F0 m pc ls st0) := by
  intro T hT X
  rcases hr T hT X with ⟨v, st₀, t, T', L, h0, X', hL, e1, e2, ⟨⟨u, hv, hp, hb⟩, hF⟩, st⟩ | ⟨q, st₀, t, T', L, E, ce, h0, X', hL, e1, e2, ⟨u, hp, hb, hF⟩, hce, hcv, hcl, st⟩
  · cases hv
    obtain ⟨k1, k2, k3⟩ := vx_keep h0 e1 hS hA hf hL hF
    obtain ⟨t2, a1, b1⟩ := kk u t T'.heap (locs ++ L) e1.symm (by rw [← e2]; exact X'.warmed.alike) hp hb k1 k2 k3 T' rfl X'
    exact ⟨t2, st t2 a1, b1⟩
  · obtain ⟨k1, k2, k3⟩ := vx_keep h0 e1 hS hAX hf hL hF
    obtain ⟨t2, a1, b1⟩ := kx E ce q u t T'.heap (locs ++ L) e1.symm (by rw [← e2]; exact X'.warmed.alike) hp hb k1 k2 k3 (by rw [e1]; exact hce) hcv hcl T' rfl X'
    exact ⟨t2, st.trans a1, b1⟩
/-- caught by the row x of this method's table; the rows ahead don't take it -/
theorem vx_catch {own name : String} {E : String} {ce : Cell} {q : Addr} (hown : s.vm.findClass own = some m.cls) (pre : List ExceptionTableEntry) (x : ExceptionTableEntry) (suf : List ExceptionTableEntry) (hsplit : c.exceptionTable.toList = pre ++ x :: suf)
    (hpass : ∀ z ∈ pre, covers z pc = false ∨ (z.catchType ≠ 0 ∧ ∃ nm : String, (Cond.classLink own z.catchType nm).before args s = true ∧ va_Nc E nm s)) (hx : covers x pc = true) (h0 : x.catchType ≠ 0)
    (hlink : (Cond.classLink own x.catchType name).before args s = true) (hcast : (Cond.castable E name).before args s = true) (hcell : H[q]? = some ce) (hv : ce.vm = .none) (hcl : s.vm.findClass E = some ce.cls)
    (kk : W p l e R s m args below meth c H locs cells slots Q (F0 m x.handlerPc ls [.ref q])) : vx_W p l e R s m args below meth c H locs cells slots Q (F0 m pc ls rest) q := by
  intro T hT X
  have hpl : e.platform.magicAccessors = ({} : Platform).magicAccessors := by rw [X.admits.platform]
  obtain ⟨c3, c4, hc3, hc4, hasg⟩ := Cond.castable_spec hcast
  cases Option.some.inj (hc3.symm.trans hcl)
  obtain ⟨c5, hc5, hcl5⟩ := Cond.classLink_spec hown hlink e.platform hpl
  cases Option.some.inj (hc4.symm.trans hc5)
  obtain ⟨vm', X', st⟩ := X.thenCaughtThrough q (g := F0 m pc ls rest) rfl (Steps.refl _) (by rw [hT]; exact hcell) (by rw [hv]; rfl) (by obtain ⟨k9, h9, -⟩ := Vm.findClass_spec hcl; exact ⟨k9, h9⟩) pre x suf hsplit
    (fun z hz => by
      rcases hpass z hz with h | ⟨hz0, nm, hl1, hn1⟩
      · exact Or.inl h
      · obtain ⟨c6, hc6, hcl6⟩ := Cond.classLink_spec hown hl1 e.platform hpl
        obtain ⟨a8, b8, h1, h2, h3⟩ := hn1
        cases Option.some.inj (h1.symm.trans hcl)
        cases Option.some.inj (h2.symm.trans hc6)
        exact Or.inr ⟨hz0, _, hcl6, h3⟩) hx (Or.inr ⟨h0, c4, hcl5, hasg⟩)
  obtain ⟨t, a1, b1⟩ := kk (T.setVm vm') hT X'
  exact ⟨t, st.trans a1, b1⟩
end Rows
section Ends
variable {p : Program} {l : Launch} {e : Env} {R : Room} {s : State} {m : MethodId} {args : Array Value} {below : List Frame} {meth : Method} {c : Code} {H : Heap} {locs : List Loc} {cells slots : Nat} {Q : State → Prop}
variable {mc ms : Nat} {free : Addr → Prop} {A0 A1 : Nat → Prop} {H0 : Heap} {a : Array Value} {ls : Array Slot} {st0 rest : List Value}
variable {Qc : Array Value → State → Outcome → State → Prop} {XC : String → State → State → Prop}
/-- what a body that may throw owes at its end -/
def vx_MQ (below : List Frame) (Qc : Array Value → State → Outcome → State → Prop) (XC : String → State → State → Prop) (a : Array Value) (s : State) (mc ms : Nat) (free : Addr → Prop) : State → Prop := fun t =>
  ∃ o, t.status = .running ∧ Ended t below o ∧ vx_Q Qc XC mc ms free a s o t
theorem vx_ret {g : JFrame} {mc ms : Nat} (k : W p l e R s m args below meth c H locs cells slots (MQ below Qc args s mc ms free) g) : W p l e R s m args below meth c H locs cells slots (vx_MQ below Qc XC args s mc ms free) g := by
  intro T hT X
  obtain ⟨t, a1, o, b1, b2, b3, b4⟩ := k T hT X
  exact ⟨t, a1, o, b1, b2, Or.inl ⟨b3, b4⟩⟩
/-- not caught here: it goes on to the caller -/
theorem vx_widen {g : JFrame} {q : Addr} {k n : Nat} (h1 : cells ≤ k) (h2 : slots ≤ n) (kk : vx_W p l e R s m args below meth c H locs k n Q g q) : vx_W p l e R s m args below meth c H locs cells slots Q g q := fun T hT X => kk T hT (stand_widen X h1 h2)
theorem vx_out {pc : Nat} {E : String} {ce : Cell} {q : Addr} {mc ms : Nat} (hout : ∀ x ∈ c.exceptionTable.toList, covers x pc = false) (hlocks : meth.locks = false) (hcell : H[q]? = some ce) (hv : ce.vm = .none) (hcl : s.vm.findClass E = some ce.cls)
    (hx : ∀ t : State, t.heap = H → s.vm.Alike t.vm → XC E s t) (hf : ∀ z ∈ locs, free z.base) (hc : cells ≤ mc) (hs : slots ≤ ms) :
    vx_W p l e R s m args below meth c H locs cells slots (vx_MQ below Qc XC args s mc ms free) (F0 m pc ls rest) q := by
  intro T hT X
  obtain ⟨st1, hrun, hend, hW, hsm⟩ := X.leaveThrown q (g := F0 m pc ls rest) rfl rfl rfl hout hlocks
  have hcell9 : (T.setFrames (.throwing q :: below)).heap[q]? = some ce := by
    show T.heap[q]? = some ce
    rw [hT]; exact hcell
  exact ⟨_, st1, .threw q, hrun, hend, Or.inr ⟨q, rfl, E, ce, locs, hx _ hT hW.alike, hcell9, hv, hcl, hW, hsm.mono hc hs, hf⟩⟩
theorem vx_frame {U : State} {k n : Nat} (h : s.sameButNew ({ U with vm := s.vm } : State) locs k n) : s.heap.size ≤ U.heap.size ∧ ∀ q : Nat, q < s.heap.size → (∀ z ∈ locs, z.base ≠ q) → U.heap[q]? = s.heap[q]? := by
  obtain ⟨-, h2, -, -, -, h6⟩ := h
  refine ⟨h2, fun q hq hz => ?_⟩
  obtain ⟨c9, e1, e2, e3, e4⟩ := h6 q _ (Array.getElem?_eq_getElem hq)
  have hs : c9.slots = (s.heap[q]).slots := Array.ext_getElem? fun i => e4 i fun hm => hz _ hm rfl
  have h9 : c9 = s.heap[q] := by
    rw [hs] at e2
    exact e2
  have e5 : U.heap[q]? = some c9 := e1
  rw [e5, h9, Array.getElem?_eq_getElem hq]
/-- the words of a throw but the four that speak of the heap -/
def vx_no (w : Cond) : Bool := decide (w ≠ .isRef (.static Bundle.tN "UNASSIGNED_STACK" Bundle.steD)) && decide (w ≠ .isRef (.static Bundle.tN "SUPPRESSED_SENTINEL" Bundle.listD)) && decide (w ≠ .laysStatic Bundle.tN "UNASSIGNED_STACK" Bundle.steD) && decide (w ≠ .laysStatic Bundle.tN "SUPPRESSED_SENTINEL" Bundle.listD)
def vx_at0 (own : String) (ic : Nat) (X : String) (names : List String) : List Cond := (Bundle.ownAtoms0 own ic X names).filter vx_no
def vx_atS (own : String) (ic : Nat) (X : String) (names : List String) : List Cond := (Bundle.ownAtoms own ic X names).filter vx_no
/-- a word that the tables alone decide, or a good one -/
def vx_ot (w : Cond) : Bool := w.onTables || goodWord w
theorem vx_ot_at {args a' : Array Value} {s U : State} {w : Cond} (hW : s.WarmedH U.vm) (hvm : s.vm = U.vm) (hg : vx_ot w = true) (h : w.before args s = true) : w.before a' U = true := by
  simp only [vx_ot, Bool.or_eq_true] at hg
  rcases hg with hg | hg
  · exact va_tabs hg hvm h
  · exact word_at hW (good_of_word hg) h
/-- a list's words: the good ones out of the method's own list, the others by premises of their own -/
theorem vx_hat {args : Array Value} {s : State} {L B : List Cond} (h1 : ∀ w ∈ L.filter goodWord, w.before args s = true) (h2 : ∀ w ∈ L.filter (fun w => !goodWord w), w ∈ B) (h3 : ∀ w ∈ B, w.before args s = true) : ∀ w ∈ L, w.before args s = true := by
  intro w hw
  by_cases g : goodWord w = true
  · exact h1 w (List.mem_filter.mpr ⟨hw, g⟩)
  · refine h3 w (h2 w (List.mem_filter.mpr ⟨hw, ?_⟩))
    show (!goodWord w) = true
    cases hgw : goodWord w
    · rfl
    · exact absurd hgw g
theorem vx_c {args : Array Value} {s : State} {w : Cond} {B : List Cond} (h : w.before args s = true) (t : ∀ w ∈ B, w.before args s = true) : ∀ w' ∈ w :: B, w'.before args s = true := fun w' h' => (List.mem_cons.mp h').elim (fun e => by rw [e]; exact h) (t w')
theorem vx_n {args : Array Value} {s : State} : ∀ w ∈ ([] : List Cond), w.before args s = true := fun _ h => nomatch h
theorem vx_own {args : Array Value} {s : State} {L : List Cond} (h1 : ∀ w ∈ L.filter vx_no, w.before args s = true)
    (hU : (Cond.isRef (.static Bundle.tN "UNASSIGNED_STACK" Bundle.steD)).before args s = true) (hN : (Cond.isRef (.static Bundle.tN "SUPPRESSED_SENTINEL" Bundle.listD)).before args s = true)
    (lU : (Cond.laysStatic Bundle.tN "UNASSIGNED_STACK" Bundle.steD).before args s = true) (lN : (Cond.laysStatic Bundle.tN "SUPPRESSED_SENTINEL" Bundle.listD).before args s = true) : ∀ w ∈ L, w.before args s = true := by
  intro w hw
  by_cases e1 : w = .isRef (.static Bundle.tN "UNASSIGNED_STACK" Bundle.steD)
  · rw [e1]; exact hU
  · by_cases e2 : w = .isRef (.static Bundle.tN "SUPPRESSED_SENTINEL" Bundle.listD)
    · rw [e2]; exact hN
    · by_cases e3 : w = .laysStatic Bundle.tN "UNASSIGNED_STACK" Bundle.steD
      · rw [e3]; exact lU
      · by_cases e4 : w = .laysStatic Bundle.tN "SUPPRESSED_SENTINEL" Bundle.listD
        · rw [e4]; exact lN
        · exact h1 w (List.mem_filter.mpr ⟨hw, by unfold vx_no; rw [decide_eq_true e1, decide_eq_true e2, decide_eq_true e3, decide_eq_true e4]; rfl⟩)
/-- where a static field lies, its class's statics cell in H -/
def vx_L (C n d : String) (A : Nat → Prop) (U : State) (H : Heap) : Prop := ∃ (c : ClassId) (k : Class) (i : Nat) (f : Field) (a : Nat) (cell : Cell), U.vm.findClass C = some c ∧ U.fieldFound? C n d = some (c, k, i, f) ∧ f.isStatic = true ∧ k.statics = some a ∧ H[a]? = some cell ∧ cell.vm.isStatics = true ∧ cell.cls = c ∧ f.slot < cell.slots.size ∧ k.staticTypes[f.slot]? = some f.type ∧ ¬ A a
theorem vx_L.moved {C n d : String} {A : Nat → Prop} {u U : State} {H : Heap} (hvm : u.vm.Alike U.vm) (h : vx_L C n d A u H) : vx_L C n d A U H := by
  obtain ⟨c, k, i, f, a, cell, h1, h2, h3, h4, h5, h6, h7, h8, h9, h10⟩ := h
  obtain ⟨k', hi', he⟩ := State.fieldFound?_setVm hvm h2
  exact ⟨c, k', i, f, a, cell, by rw [hvm.findClass]; exact h1, hi', h3, by rw [he]; exact h4, h5, h6, h7, h8, by rw [he]; exact h9, h10⟩
theorem vx_L.kept {C n d : String} {A : Nat → Prop} {U : State} {H H1 : Heap} (h : vx_L C n d A U H) (hq : ∀ a : Nat, a < H.size → ¬ A a → H1[a]? = H[a]?) : vx_L C n d A U H1 := by
  obtain ⟨c, k, i, f, a, cell, h1, h2, h3, h4, h5, h6, h7, h8, h9, h10⟩ := h
  exact ⟨c, k, i, f, a, cell, h1, h2, h3, h4, by rw [hq a (Array.getElem?_eq_some_iff.mp h5).1 h10]; exact h5, h6, h7, h8, h9, h10⟩
theorem vx_L.narrow {C n d : String} {A B : Nat → Prop} {U : State} {H : Heap} (h : vx_L C n d A U H) (hAB : ∀ q, B q → A q) : vx_L C n d B U H := by
  obtain ⟨c, k, i, f, a, cell, h1, h2, h3, h4, h5, h6, h7, h8, h9, h10⟩ := h
  exact ⟨c, k, i, f, a, cell, h1, h2, h3, h4, h5, h6, h7, h8, h9, fun z => h10 (hAB _ z)⟩
theorem vx_L.word {C n d : String} {A : Nat → Prop} {s : State} {args : Array Value} (h : vx_L C n d A s s.heap) : (Cond.laysStatic C n d).before args s = true := by
  obtain ⟨c, k, i, f, a, cell, h1, h2, h3, h4, h5, h6, h7, h8, h9, -⟩ := h
  show (Cond.laysStatic C n d).holds args s none s [] = true
  exact Cond.laysStatic_of h1 h2 h3 h4 h5 h6 h7 h8 h9
/-- .. and what it holds: null or some reference -/
def vx_Zq (C n d : String) (A : Nat → Prop) (U : State) (H : Heap) : Prop := va_Zq C n d A U H ∧ vx_L C n d A U H
theorem vx_Zq.moved {C n d : String} {A : Nat → Prop} {u U : State} {H : Heap} (hvm : u.vm.Alike U.vm) (h : vx_Zq C n d A u H) : vx_Zq C n d A U H := ⟨va_Zq.moved hvm h.1, vx_L.moved hvm h.2⟩
theorem vx_Zq.kept {C n d : String} {A : Nat → Prop} {U : State} {H H1 : Heap} (h : vx_Zq C n d A U H) (hq : ∀ a : Nat, a < H.size → ¬ A a → H1[a]? = H[a]?) : vx_Zq C n d A U H1 := ⟨va_Zq.kept h.1 hq, vx_L.kept h.2 hq⟩
theorem vx_Zq.narrow {C n d : String} {A B : Nat → Prop} {U : State} {H : Heap} (h : vx_Zq C n d A U H) (hAB : ∀ q, B q → A q) : vx_Zq C n d B U H := ⟨va_Zq.narrow h.1 hAB, vx_L.narrow h.2 hAB⟩
theorem vx_Zqof {args : Array Value} {s : State} {C n d : String} {A : Nat → Prop} (hl : (Cond.laysStatic C n d).before args s = true) (hini : (Cond.initialized C).before args s = true) (h : (Cond.isRef (.static C n d)).before args s = true) (hA : ∀ a : Nat, a < s.heap.size → ¬ A a) : vx_Zq C n d A s s.heap := by
  refine ⟨va_Zqof hl hini h hA, ?_⟩
  obtain ⟨c, k, i, f, a, cell, h1, h2, h3, h4, h5, h6, h7, h8, h9⟩ := Cond.laysStatic_spec hl
  exact ⟨c, k, i, f, a, cell, h1, h2, h3, h4, h5, h6, h7, h8, h9, hA a (Array.getElem?_eq_some_iff.mp h5).1⟩
theorem vx_isRef {C n d : String} {v : Value} {A : Nat → Prop} {s : State} {args : Array Value} (h : va_Z C n d v A s s.heap) (hv : v.isRef = true) : (Cond.isRef (.static C n d)).before args s = true := by
  obtain ⟨cf, kf, fi, f, a, cell, h1, h2, h3, h4, h5, h6, h7, -⟩ := h
  have he : (Term.static C n d).eval args s none [] s = some v := by
    simp [Term.eval, State.fieldNamed?, h1, h2, h4, h5, h6, h7]
  simp only [Cond.before, Cond.holds, Cond.value, he]
  cases v <;> simp_all [Value.isRef]
theorem vx_isRefq {C n d : String} {A : Nat → Prop} {s : State} {args : Array Value} (h : va_Zq C n d A s s.heap) : (Cond.isRef (.static C n d)).before args s = true := by
  rcases h with h | ⟨t, h⟩
  · exact vx_isRef h rfl
  · exact vx_isRef h rfl
/-- the same frame, seen from here: as if the method were called anew in this heap -/
theorem vx_rebase {T : State} (X : Stand p l e R s m args below meth c T locs cells slots) {R' : Room} (hf : R'.frames ≤ R.frames) (hl : R'.locals ≤ R.locals) (hc : cells + R'.cells ≤ R.cells) (hs : slots + R'.slots ≤ R.slots) :
    Stand p l e R' ((T.setVm s.vm).setFrames (.invoking m args :: below)) m args below meth c T [] 0 0 := by
  have htop : (T.setVm s.vm).topJava?.isSome := X.here.top
  have hF : ((T.setVm s.vm).setFrames (.invoking m args :: below)).frames = .invoking m args :: below := State.frames_setFrames _ (State.cur_lt_of_top htop)
  obtain ⟨g₀, hg0⟩ := Option.isSome_iff_exists.mp htop
  obtain ⟨r, hr⟩ := State.topJava?_eq_some.mp hg0
  have hl9 : e.platform.stackLimits (T.setVm s.vm).me = e.platform.stackLimits s.me := X.limits
  have hb9 : (T.setVm s.vm).me.stackBytes = s.me.stackBytes := X.bytes
  refine ⟨X.admits, X.cas, X.clock, hF, ?_, X.hears, X.method, X.code, X.here, X.tail, X.warmed, ?_, ?_, ?_⟩
  · have h := X.room
    have hU : ((T.setVm s.vm).setFrames (.invoking m args :: below)).localsInUse = s.localsInUse := by
      rw [State.localsInUse_invoking hF (meth := meth) (c := c) X.method X.code, State.localsInUse_invoking X.frames X.method X.code]
    simp only [State.hasRoom, Bool.and_eq_true, decide_eq_true_eq] at h ⊢
    obtain ⟨⟨⟨⟨h1, h2, h3, h4, h5, h6⟩, h7⟩, h8⟩, h9⟩ := h
    rw [X.frames, List.length_cons] at h2 h3
    have q1 := X.heapSize
    have q2 := X.used
    simp only [hF, hU, List.length_cons, State.stackLimits_setFrames, State.stackBytes_setFrames, hl9, hb9]
    refine ⟨⟨⟨⟨by omega, by omega, by omega, by omega, by omega, h6⟩, ?_⟩, ?_⟩, X.book⟩
    · show T.heap.size + R'.cells ≤ e.platform.maxCells
      omega
    · show T.slotsUsed + R'.slots ≤ e.platform.maxSlots
      omega
  · rw [State.stackLimits_setFrames]; rfl
  · rw [State.stackBytes_setFrames]; rfl
  · refine ⟨?_, Nat.le_refl _, Nat.le_refl _, ?_, ?_, fun a c9 h9 => ⟨c9, h9, rfl, rfl, fun _ _ => rfl⟩⟩
    · obtain ⟨t, ht, -⟩ := State.frames_cons hr
      show T.setVm s.vm = { ((T.setVm s.vm).setFrames (.invoking m args :: below)).setFrames (T.setVm s.vm).frames with heap := T.heap, slotsUsed := T.slotsUsed }
      rw [State.setFrames_setFrames, State.setFrames_self ht]
      rfl
    · show T.slotsUsed = T.slotsUsed + ((T.heap.toList.drop T.heap.size).map (·.slots.size)).sum
      rw [List.drop_eq_nil_of_le (Nat.le_of_eq Array.length_toList)]
      rfl
    · show ((T.heap.toList.drop T.heap.size).map (·.slots.size)).sum ≤ 0
      rw [List.drop_eq_nil_of_le (Nat.le_of_eq Array.length_toList)]
      exact Nat.le_refl _
/-- 'throw new E()': new; dup; invokespecial; athrow -/
theorem vx_throw0 {cc : ByteArray} {pc : Nat} (hexec : p.tables.exec = Jvm.exec) (hb : c.code = cc) (hl : l.stackTraces = false) {own cls : String} {names : List String} {ik ic mc ms : Nat} {A : Nat → Prop}
    (hown : s.vm.findClass own = some m.cls) (hcls : Bundle.fit cls = true) (hnames : ∀ n ∈ names, Bundle.fit n = true)
    (hk : (Cond.classLink own ik cls).before args s = true) (hini : (Cond.initialized cls).before args s = true) (hat : ∀ w ∈ vx_at0 own ic cls names, w.before args s = true)
    (hgood : ∀ w ∈ Cond.classLink own ik cls :: Cond.initialized cls :: vx_at0 own ic cls names, vx_ot w = true)
    (hU : vx_Zq Bundle.tN "UNASSIGNED_STACK" Bundle.steD A s s.heap) (hN : vx_Zq Bundle.tN "SUPPRESSED_SENTINEL" Bundle.listD A s s.heap) (hS : va_S A s.heap H locs) (hsize : ls.size = c.maxLocals)
    (d0 : decode cc pc = .ok (.new ik, 3)) (d3 : decode cc (pc + 3) = .ok (.dup, 1)) (d4 : decode cc (pc + 4) = .ok (.invokespecial ic, 3)) (d7 : decode cc (pc + 7) = .ok (.athrow, 1))
    (hout : ∀ x ∈ c.exceptionTable.toList, covers x (pc + 7) = false)
    (hRframes : names.length + 3 < R.frames) (hRlocals : (rest.map fun v => v.category).sum + (13 * (names.length + 1) + 42) ≤ R.locals) (hRcells : cells + 1 ≤ R.cells) (hRslots : slots + 6 ≤ R.slots) (hlocks : meth.locks = false)
    (hx : ∀ t : State, s.vm.Alike t.vm → H.size ≤ t.heap.size → (∀ q : Nat, q < H.size → t.heap[q]? = H[q]?) → XC cls s t)
    (hf : ∀ z ∈ locs, free z.base) (hc : cells + 1 ≤ mc) (hs : slots + 6 ≤ ms) :
    W p l e R s m args below meth c H locs cells slots (vx_MQ below Qc XC args s mc ms free) (F0 m pc ls rest) := by
  intro T hT X
  have htr : e.platform.stackTraces = false := (show e.platform.stackTraces = l.stackTraces by rw [X.admits.platform]).trans hl
  have Y := vx_rebase X (R' := { frames := R.frames, locals := R.locals, cells := 1, slots := 6 }) (Nat.le_refl _) (Nat.le_refl _) hRcells hRslots
  obtain ⟨s', hA⟩ : ∃ z, z = (T.setVm s.vm).setFrames (.invoking m args :: below) := ⟨_, rfl⟩
  rw [← hA] at Y
  have hvm : s'.vm = s.vm := by rw [hA]; rfl
  have hhp : s'.heap = H := by rw [hA]; exact hT
  have hW0 : s.WarmedH s'.vm := by rw [hvm]; exact State.WarmedH.refl s
  have hat' : ∀ w ∈ vx_at0 own ic cls names, w.before args s' = true := fun w hw => vx_ot_at hW0 hvm.symm (hgood w (List.mem_cons_of_mem _ (List.mem_cons_of_mem _ hw))) (hat w hw)
  have hk' : (Cond.classLink own ik cls).before args s' = true := vx_ot_at hW0 hvm.symm (hgood _ List.mem_cons_self) hk
  have hini' : (Cond.initialized cls).before args s' = true := vx_ot_at hW0 hvm.symm (hgood _ (List.mem_cons_of_mem _ List.mem_cons_self)) hini
  have hU' : vx_Zq Bundle.tN "UNASSIGNED_STACK" Bundle.steD A s' s'.heap := by rw [hhp]; exact vx_Zq.moved hW0.alike (hU.kept hS.2.1)
  have hN' : vx_Zq Bundle.tN "SUPPRESSED_SENTINEL" Bundle.listD A s' s'.heap := by rw [hhp]; exact vx_Zq.moved hW0.alike (hN.kept hS.2.1)
  have h : ∀ w ∈ Bundle.ownAtoms0 own ic cls names, w.before args s' = true := vx_own hat' (vx_isRefq hU'.1) (vx_isRefq hN'.1) hU'.2.word hN'.2.word
  have hown' : s'.vm.findClass own = some m.cls := by rw [hvm]; exact hown
  have hins : (Cond.instantiable cls 6).before args s' = true := h _ (by simp [Bundle.ownAtoms0])
  obtain ⟨vm₁, cX, kX, hfX, hkX, -, -, X₁, st1⟩ := Y.newCold hexec (own := own) (C := cls) (index := ik) (n := 6) hown' hk' hins hini'
    (g := F0 m pc ls rest) rfl (by rw [hb]; exact d0) (Nat.le_refl _) (Nat.le_refl _)
  generalize hT1 : (T.setVm vm₁).pushCell { cls := cX, slots := kX.instanceTypes.map defaultValue, vm := .none } = T1 at X₁ st1
  have hcat : (Value.ref T.heap.size).category = 1 := rfl
  have hcellA : T1.heap[T.heap.size]? = some (freshCell cX kX) := by rw [← hT1]; exact State.heap_pushCell_size _ _
  have d3' : decode c.code (pc + 3) = .ok (.dup, 1) := by rw [hb]; exact d3
  obtain ⟨U, hsteps, hrun, hend, hW, hsame, ce, hce, hO⟩ := X₁.ctorThrow0 hexec htr (own := own) (cls := cls) (names := names) (ic := ic) hown' hcls hnames h (fun x hx => nomatch hx) hfX hkX hcellA (by rw [hhp, hT]; exact Nat.le_refl _)
    (g := { method := m, pc := pc + 4, locals := ls, stack := .ref T.heap.size :: .ref T.heap.size :: rest, locked := none }) rfl hsize rfl rfl (rest := rest) rfl
    (by rw [hb]; exact d4) (by rw [hb]; exact d7) hout hRframes (by simp only [List.map_cons, List.sum_cons, hcat]; omega) hlocks
  obtain ⟨f1, f2⟩ := vx_frame hsame
  rw [hhp] at f1 f2
  have hWs : s.WarmedH U.vm := State.WarmedH.trans hW0 hW
  have hcl : s.vm.findClass cls = some ce.cls := by
    have h9 := hO.cls
    rw [hvm] at h9
    exact h9
  have hall : s.sameButNew ({ U with vm := s.vm } : State) locs mc ms := by
    subst hA
    obtain ⟨e1, e2⟩ := hsame
    rw [State.setFrames_setFrames] at e1
    have h2 : (T.setVm s.vm).sameButNew ({ U with vm := s.vm } : State) [] (0 + 1) (0 + 6) := ⟨e1, e2⟩
    have h3 := X.same.trans h2
    rw [List.append_nil] at h3
    exact h3.mono hc hs
  refine ⟨U, ?_, .threw T.heap.size, hrun, hend, Or.inr ⟨T.heap.size, rfl, cls, ce, locs, hx U hWs.alike f1 (fun q hq => f2 q hq (fun z hz => nomatch hz)), hce, hO.vm, hcl, hWs, hall, hf⟩⟩
  refine st1 _ ?_
  show Steps p.tables e below (T1.setTop { method := m, pc := pc + 3, locals := ls, stack := .ref T.heap.size :: rest, locked := none }) _
  jvm_step X₁.here [X₁.here.top, hexec, d3', Value.category]
  exact hsteps
/-- 'throw new E("text")': new; dup; ldc; invokespecial; athrow -/
theorem vx_throwS {cc : ByteArray} {pc : Nat} (hexec : p.tables.exec = Jvm.exec) (hb : c.code = cc) (hl : l.stackTraces = false) {own cls text : String} {names : List String} {ik is ic mc ms sa : Nat} {A : Nat → Prop}
    (hown : s.vm.findClass own = some m.cls) (hcls : Bundle.fit cls = true) (hnames : ∀ n ∈ names, Bundle.fit n = true)
    (hk : (Cond.classLink own ik cls).before args s = true) (hini : (Cond.initialized cls).before args s = true) (hstr : vk_R own is text sa s) (hat : ∀ w ∈ vx_atS own ic cls names, w.before args s = true)
    (hgood : ∀ w ∈ Cond.classLink own ik cls :: Cond.initialized cls :: vx_atS own ic cls names, vx_ot w = true)
    (hU : vx_Zq Bundle.tN "UNASSIGNED_STACK" Bundle.steD A s s.heap) (hN : vx_Zq Bundle.tN "SUPPRESSED_SENTINEL" Bundle.listD A s s.heap) (hS : va_S A s.heap H locs) (hsize : ls.size = c.maxLocals)
    (d0 : decode cc pc = .ok (.new ik, 3)) (d3 : decode cc (pc + 3) = .ok (.dup, 1)) (d4 : decode cc (pc + 4) = .ok (.ldc is, 2)) (d6 : decode cc (pc + 6) = .ok (.invokespecial ic, 3)) (d9 : decode cc (pc + 9) = .ok (.athrow, 1))
    (hout : ∀ x ∈ c.exceptionTable.toList, covers x (pc + 9) = false)
    (hRframes : names.length + 3 < R.frames) (hRlocals : (rest.map fun v => v.category).sum + (13 * (names.length + 1) + 43) ≤ R.locals) (hRcells : cells + 1 ≤ R.cells) (hRslots : slots + 6 ≤ R.slots) (hlocks : meth.locks = false)
    (hx : ∀ t : State, s.vm.Alike t.vm → H.size ≤ t.heap.size → (∀ q : Nat, q < H.size → t.heap[q]? = H[q]?) → XC cls s t)
    (hf : ∀ z ∈ locs, free z.base) (hc : cells + 1 ≤ mc) (hs : slots + 6 ≤ ms) :
    W p l e R s m args below meth c H locs cells slots (vx_MQ below Qc XC args s mc ms free) (F0 m pc ls rest) := by
  intro T hT X
  have htr : e.platform.stackTraces = false := (show e.platform.stackTraces = l.stackTraces by rw [X.admits.platform]).trans hl
  have Y := vx_rebase X (R' := { frames := R.frames, locals := R.locals, cells := 1, slots := 6 }) (Nat.le_refl _) (Nat.le_refl _) hRcells hRslots
  obtain ⟨s', hA⟩ : ∃ z, z = (T.setVm s.vm).setFrames (.invoking m args :: below) := ⟨_, rfl⟩
  rw [← hA] at Y
  have hvm : s'.vm = s.vm := by rw [hA]; rfl
  have hhp : s'.heap = H := by rw [hA]; exact hT
  have hW0 : s.WarmedH s'.vm := by rw [hvm]; exact State.WarmedH.refl s
  have hat' : ∀ w ∈ vx_atS own ic cls names, w.before args s' = true := fun w hw => vx_ot_at hW0 hvm.symm (hgood w (List.mem_cons_of_mem _ (List.mem_cons_of_mem _ hw))) (hat w hw)
  have hk' : (Cond.classLink own ik cls).before args s' = true := vx_ot_at hW0 hvm.symm (hgood _ List.mem_cons_self) hk
  have hini' : (Cond.initialized cls).before args s' = true := vx_ot_at hW0 hvm.symm (hgood _ (List.mem_cons_of_mem _ List.mem_cons_self)) hini
  have hU' : vx_Zq Bundle.tN "UNASSIGNED_STACK" Bundle.steD A s' s'.heap := by rw [hhp]; exact vx_Zq.moved hW0.alike (hU.kept hS.2.1)
  have hN' : vx_Zq Bundle.tN "SUPPRESSED_SENTINEL" Bundle.listD A s' s'.heap := by rw [hhp]; exact vx_Zq.moved hW0.alike (hN.kept hS.2.1)
  have h : ∀ w ∈ Bundle.ownAtoms own ic cls names, w.before args s' = true := vx_own hat' (vx_isRefq hU'.1) (vx_isRefq hN'.1) hU'.2.word hN'.2.word
  have hown' : s'.vm.findClass own = some m.cls := by rw [hvm]; exact hown
  have hins : (Cond.instantiable cls 6).before args s' = true := h _ (by simp [Bundle.ownAtoms])
  obtain ⟨vm₁, cX, kX, hfX, hkX, -, -, X₁, st1⟩ := Y.newCold hexec (own := own) (C := cls) (index := ik) (n := 6) hown' hk' hins hini'
    (g := F0 m pc ls rest) rfl (by rw [hb]; exact d0) (Nat.le_refl _) (Nat.le_refl _)
  generalize hT1 : (T.setVm vm₁).pushCell { cls := cX, slots := kX.instanceTypes.map defaultValue, vm := .none } = T1 at X₁ st1
  have hcat : (Value.ref T.heap.size).category = 1 := rfl
  have hcellA : T1.heap[T.heap.size]? = some (freshCell cX kX) := by rw [← hT1]; exact State.heap_pushCell_size _ _
  have d3' : decode c.code (pc + 3) = .ok (.dup, 1) := by rw [hb]; exact d3
  have d4' : decode c.code (pc + 4) = .ok (.ldc is, 2) := by rw [hb]; exact d4
  have hstr' : vk_R own is text sa s' := vk_R.warm hW0 hstr
  obtain ⟨U, hsteps, hrun, hend, hW, hsame, ce, hce, hO⟩ := X₁.ctorThrowS hexec htr (own := own) (cls := cls) (names := names) (ic := ic) hown' hcls hnames h (fun x hx => nomatch hx) hfX hkX hcellA (by rw [hhp, hT]; exact Nat.le_refl _) (msg := .ref sa) rfl
    (g := { method := m, pc := pc + 6, locals := ls, stack := .ref sa :: .ref T.heap.size :: .ref T.heap.size :: rest, locked := none }) rfl hsize rfl rfl (rest := rest) rfl
    (by rw [hb]; exact d6) (by rw [hb]; exact d9) hout hRframes (by simp only [List.map_cons, List.sum_cons, hcat]; omega) hlocks
  obtain ⟨f1, f2⟩ := vx_frame hsame
  rw [hhp] at f1 f2
  have hWs : s.WarmedH U.vm := State.WarmedH.trans hW0 hW
  have hcl : s.vm.findClass cls = some ce.cls := by
    have h9 := hO.cls
    rw [hvm] at h9
    exact h9
  have hall : s.sameButNew ({ U with vm := s.vm } : State) locs mc ms := by
    subst hA
    obtain ⟨e1, e2⟩ := hsame
    rw [State.setFrames_setFrames] at e1
    have h2 : (T.setVm s.vm).sameButNew ({ U with vm := s.vm } : State) [] (0 + 1) (0 + 6) := ⟨e1, e2⟩
    have h3 := X.same.trans h2
    rw [List.append_nil] at h3
    exact h3.mono hc hs
  refine ⟨U, ?_, .threw T.heap.size, hrun, hend, Or.inr ⟨T.heap.size, rfl, cls, ce, locs, hx U hWs.alike f1 (fun q hq => f2 q hq (fun z hz => nomatch hz)), hce, hO.vm, hcl, hWs, hall, hf⟩⟩
  refine st1 _ ?_
  show Steps p.tables e below (T1.setTop { method := m, pc := pc + 3, locals := ls, stack := .ref T.heap.size :: rest, locked := none }) _
  jvm_step X₁.here [X₁.here.top, hexec, d3', Value.category]
  exact X₁.ldcString hexec (own := own) (text := text) (index := is) (a := sa) hown' hstr'.1 hstr'.2
    (g := { method := m, pc := pc + 4, locals := ls, stack := .ref T.heap.size :: .ref T.heap.size :: rest, locked := none }) rfl d4' _ hsteps
/-- 'throw new E("text")', the text by a wide index -/
theorem vx_throwSW {cc : ByteArray} {pc : Nat} (hexec : p.tables.exec = Jvm.exec) (hb : c.code = cc) (hl : l.stackTraces = false) {own cls text : String} {names : List String} {ik is ic mc ms sa : Nat} {A : Nat → Prop}
    (hown : s.vm.findClass own = some m.cls) (hcls : Bundle.fit cls = true) (hnames : ∀ n ∈ names, Bundle.fit n = true)
    (hk : (Cond.classLink own ik cls).before args s = true) (hini : (Cond.initialized cls).before args s = true) (hstr : vk_R own is text sa s) (hat : ∀ w ∈ vx_atS own ic cls names, w.before args s = true)
    (hgood : ∀ w ∈ Cond.classLink own ik cls :: Cond.initialized cls :: vx_atS own ic cls names, vx_ot w = true)
    (hU : vx_Zq Bundle.tN "UNASSIGNED_STACK" Bundle.steD A s s.heap) (hN : vx_Zq Bundle.tN "SUPPRESSED_SENTINEL" Bundle.listD A s s.heap) (hS : va_S A s.heap H locs) (hsize : ls.size = c.maxLocals)
    (d0 : decode cc pc = .ok (.new ik, 3)) (d3 : decode cc (pc + 3) = .ok (.dup, 1)) (d4 : decode cc (pc + 4) = .ok (.ldc_w is, 3)) (d7 : decode cc (pc + 7) = .ok (.invokespecial ic, 3)) (d10 : decode cc (pc + 10) = .ok (.athrow, 1))
    (hout : ∀ x ∈ c.exceptionTable.toList, covers x (pc + 10) = false)
    (hRframes : names.length + 3 < R.frames) (hRlocals : (rest.map fun v => v.category).sum + (13 * (names.length + 1) + 43) ≤ R.locals) (hRcells : cells + 1 ≤ R.cells) (hRslots : slots + 6 ≤ R.slots) (hlocks : meth.locks = false)
    (hx : ∀ t : State, s.vm.Alike t.vm → H.size ≤ t.heap.size → (∀ q : Nat, q < H.size → t.heap[q]? = H[q]?) → XC cls s t)
    (hf : ∀ z ∈ locs, free z.base) (hc : cells + 1 ≤ mc) (hs : slots + 6 ≤ ms) :
    W p l e R s m args below meth c H locs cells slots (vx_MQ below Qc XC args s mc ms free) (F0 m pc ls rest) := by
  intro T hT X
  have htr : e.platform.stackTraces = false := (show e.platform.stackTraces = l.stackTraces by rw [X.admits.platform]).trans hl
  have Y := vx_rebase X (R' := { frames := R.frames, locals := R.locals, cells := 1, slots := 6 }) (Nat.le_refl _) (Nat.le_refl _) hRcells hRslots
  obtain ⟨s', hA⟩ : ∃ z, z = (T.setVm s.vm).setFrames (.invoking m args :: below) := ⟨_, rfl⟩
  rw [← hA] at Y
  have hvm : s'.vm = s.vm := by rw [hA]; rfl
  have hhp : s'.heap = H := by rw [hA]; exact hT
  have hW0 : s.WarmedH s'.vm := by rw [hvm]; exact State.WarmedH.refl s
  have hat' : ∀ w ∈ vx_atS own ic cls names, w.before args s' = true := fun w hw => vx_ot_at hW0 hvm.symm (hgood w (List.mem_cons_of_mem _ (List.mem_cons_of_mem _ hw))) (hat w hw)
  have hk' : (Cond.classLink own ik cls).before args s' = true := vx_ot_at hW0 hvm.symm (hgood _ List.mem_cons_self) hk
  have hini' : (Cond.initialized cls).before args s' = true := vx_ot_at hW0 hvm.symm (hgood _ (List.mem_cons_of_mem _ List.mem_cons_self)) hini
  have hU' : vx_Zq Bundle.tN "UNASSIGNED_STACK" Bundle.steD A s' s'.heap := by rw [hhp]; exact vx_Zq.moved hW0.alike (hU.kept hS.2.1)
  have hN' : vx_Zq Bundle.tN "SUPPRESSED_SENTINEL" Bundle.listD A s' s'.heap := by rw [hhp]; exact vx_Zq.moved hW0.alike (hN.kept hS.2.1)
  have h : ∀ w ∈ Bundle.ownAtoms own ic cls names, w.before args s' = true := vx_own hat' (vx_isRefq hU'.1) (vx_isRefq hN'.1) hU'.2.word hN'.2.word
  have hown' : s'.vm.findClass own = some m.cls := by rw [hvm]; exact hown
  have hins : (Cond.instantiable cls 6).before args s' = true := h _ (by simp [Bundle.ownAtoms])
  obtain ⟨vm₁, cX, kX, hfX, hkX, -, -, X₁, st1⟩ := Y.newCold hexec (own := own) (C := cls) (index := ik) (n := 6) hown' hk' hins hini'
    (g := F0 m pc ls rest) rfl (by rw [hb]; exact d0) (Nat.le_refl _) (Nat.le_refl _)
  generalize hT1 : (T.setVm vm₁).pushCell { cls := cX, slots := kX.instanceTypes.map defaultValue, vm := .none } = T1 at X₁ st1
  have hcat : (Value.ref T.heap.size).category = 1 := rfl
  have hcellA : T1.heap[T.heap.size]? = some (freshCell cX kX) := by rw [← hT1]; exact State.heap_pushCell_size _ _
  have d3' : decode c.code (pc + 3) = .ok (.dup, 1) := by rw [hb]; exact d3
  have d4' : decode c.code (pc + 4) = .ok (.ldc_w is, 3) := by rw [hb]; exact d4
  have hstr' : vk_R own is text sa s' := vk_R.warm hW0 hstr
  obtain ⟨U, hsteps, hrun, hend, hW, hsame, ce, hce, hO⟩ := X₁.ctorThrowS hexec htr (own := own) (cls := cls) (names := names) (ic := ic) hown' hcls hnames h (fun x hx => nomatch hx) hfX hkX hcellA (by rw [hhp, hT]; exact Nat.le_refl _) (msg := .ref sa) rfl
    (g := { method := m, pc := pc + 7, locals := ls, stack := .ref sa :: .ref T.heap.size :: .ref T.heap.size :: rest, locked := none }) rfl hsize rfl rfl (rest := rest) rfl
    (by rw [hb]; exact d7) (by rw [hb]; exact d10) hout hRframes (by simp only [List.map_cons, List.sum_cons, hcat]; omega) hlocks
  obtain ⟨f1, f2⟩ := vx_frame hsame
  rw [hhp] at f1 f2
  have hWs : s.WarmedH U.vm := State.WarmedH.trans hW0 hW
  have hcl : s.vm.findClass cls = some ce.cls := by
    have h9 := hO.cls
    rw [hvm] at h9
    exact h9
  have hall : s.sameButNew ({ U with vm := s.vm } : State) locs mc ms := by
    subst hA
    obtain ⟨e1, e2⟩ := hsame
    rw [State.setFrames_setFrames] at e1
    have h2 : (T.setVm s.vm).sameButNew ({ U with vm := s.vm } : State) [] (0 + 1) (0 + 6) := ⟨e1, e2⟩
    have h3 := X.same.trans h2
    rw [List.append_nil] at h3
    exact h3.mono hc hs
  refine ⟨U, ?_, .threw T.heap.size, hrun, hend, Or.inr ⟨T.heap.size, rfl, cls, ce, locs, hx U hWs.alike f1 (fun q hq => f2 q hq (fun z hz => nomatch hz)), hce, hO.vm, hcl, hWs, hall, hf⟩⟩
  refine st1 _ ?_
  show Steps p.tables e below (T1.setTop { method := m, pc := pc + 3, locals := ls, stack := .ref T.heap.size :: rest, locked := none }) _
  jvm_step X₁.here [X₁.here.top, hexec, d3', Value.category]
  exact X₁.ldcStringW hexec (own := own) (text := text) (index := is) (a := sa) hown' hstr'.1 hstr'.2
    (g := { method := m, pc := pc + 4, locals := ls, stack := .ref T.heap.size :: .ref T.heap.size :: rest, locked := none }) rfl d4' _ hsteps
end Ends
section Bodies
variable {l : Launch}
theorem vx_ofW {y : MethodName} {ws ws' : List Cond} {rm : Room} {Pc : Array Value → State → Prop} {Qc : Array Value → State → Outcome → State → Prop} {XC : String → State → State → Prop} {mc ms : Nat} {free : Addr → Prop} {cc : ByteArray} {maxL : Nat} {ret : Option FieldType}
    (hy : plainName y.cls = true) (hw : ws = Cond.code y cc maxL ret :: ws')
    (body : ∀ p e s m args below meth c s₁, BodyLoose p l y (headSpec ws rm) cc maxL ret e s m args below meth c s₁ → c.maxLocals = maxL → (∀ x ∈ c.exceptionTable.toList, False) → Pc args s →
      W p l e (headSpec ws rm).room s m args below meth c s.heap [] 0 0 (vx_MQ below Qc XC args s mc ms free) (entryFrame m args maxL)) : vx_Met l y ws rm Pc Qc XC mc ms free := by
  refine MetFree.of_bodyS (code := cc) (maxLocals := maxL) (ret := ret) hy ?_ ?_
  · intro args s m h hn
    obtain ⟨meth, c, h1, h2, h3, h4, h5, h6, -, -⟩ := Cond.code_spec hn (atoms_spec (ws := ws) h _ (by rw [hw]; exact List.mem_cons_self))
    exact ⟨meth, c, h1, h2, h3, h4, h5, h6⟩
  · intro p e s m args below meth c s₁ B hml hP _
    have hh0 : s₁.heap = s.heap := by rw [B.state]; rfl
    have ht : ∀ x ∈ c.exceptionTable.toList, False := by
      obtain ⟨meth9, c9, h1, h2, -, -, -, -, h7, -⟩ := Cond.code_spec B.named (atoms_spec (ws := ws) B.pre _ (by rw [hw]; exact List.mem_cons_self))
      cases Option.some.inj (h1.symm.trans B.method)
      cases Option.some.inj (h2.symm.trans (Stand.of_body B).code)
      intro x hx
      rw [Array.isEmpty_iff.mp h7] at hx
      cases hx
    obtain ⟨t, a1, o, b1, b2, b3⟩ := body p e s m args below meth c s₁ B hml ht hP s₁ hh0 (Stand.of_body B)
    exact ⟨t, o, a1, b1, b2, b3⟩
/-- the table of a body with handlers -/
theorem vx_table {p : Program} {x y : MethodName} {S : Spec} {cc bytes : ByteArray} {maxL maxL' : Nat} {ret ret' : Option FieldType} {e : Env} {s s₁ : State} {m : MethodId} {args : Array Value} {below : List Frame} {meth : Method} {c : Code} {hh : List (Nat × Nat × Nat × Nat)}
    (B : BodyLoose p l y S cc maxL ret e s m args below meth c s₁) (h : (Cond.codeWith y bytes maxL' ret' hh).before args s = true) : c.exceptionTable.toList = tableOf hh := by
  obtain ⟨m9, meth9, c9, hn9, h1, h2, -, -, h6, -⟩ := Cond.codeWith_spec h
  cases Option.some.inj (hn9.symm.trans B.named)
  cases Option.some.inj (h1.symm.trans B.method)
  cases Option.some.inj (h2.symm.trans (Stand.of_body B).code)
  rw [← h6, table_eq]
end Bodies
end VXA
/-! ===== END ===== -/
/-! ===== BEGIN a static call of a method with an exception table ===== -/
section VXS
variable {p : Program} {l : Launch} {e : Env} {R : Room} {s : State} {m : MethodId} {args : Array Value} {below : List Frame} {meth : Method} {c : Code} {T : State} {H : Heap} {locs : List Loc} {cells slots : Nat}
abbrev vx_CSW (R : Room) (s : State) (args : Array Value) (own : String) (index : Nat) (y : MethodName) (bytes : ByteArray) (maxL : Nat) (ret : Option FieldType) (hh : List (Nat × Nat × Nat × Nat)) (ws : List Cond) (rm : Room) (mc ms n : Nat) : Prop :=
  (rm.cells = mc ∧ rm.slots = ms ∧ rm.frames + 1 ≤ R.frames ∧ 8 + (maxL + 11) + rm.locals ≤ R.locals ∧ (∀ w ∈ ws, ∀ (a' : Array Value) (U : State), s.WarmedH U.vm → w.before a' U = true) ∧ Cond.codeWith y bytes maxL ret hh ∈ ws) ∧
  (Cond.codeWith y bytes maxL ret hh).before args s = true ∧ (Cond.initialized y.cls).before args s = true ∧ (y.cls ≠ "java/lang/invoke/MethodHandle" ∧ y.cls ≠ "java/lang/invoke/VarHandle") ∧
  (∀ sig, parseMethodDescriptor y.desc = some sig → n = sig.parameters.length) ∧ (Cond.methodLink own index y).before args s = true ∧ (Cond.static y).before args s = true
theorem vx_cwSW {own : String} {index maxL mc ms : Nat} {y : MethodName} {bytes : ByteArray} {ret : Option FieldType} {hh : List (Nat × Nat × Nat × Nat)} {Ts ws ws' : List Cond} {rm : Room} (n : Nat) (ht : ∀ w ∈ Ts, w.before args s = true) (hT : GoodIn Ts (va_wsS own index y ws)) (hw : ws = Cond.codeWith y bytes maxL ret hh :: ws') (hrc : rm.cells = mc) (hrs : rm.slots = ms)
    (hd : y.cls ≠ "java/lang/invoke/MethodHandle" ∧ y.cls ≠ "java/lang/invoke/VarHandle" ∧ (parseMethodDescriptor y.desc).map (fun d => d.parameters.length) = some n) (hR : rm.frames + 1 ≤ R.frames ∧ 8 + (maxL + 11) + rm.locals ≤ R.locals) :
    vx_CSW R s args own index y bytes maxL ret hh ws rm mc ms n := by
  have ok : ∀ w ∈ va_wsS own index y ws, w.before args s = true := fun w h => ht w (hT w h).1
  have hG : GoodIn Ts ws := fun w h => hT w (by unfold va_wsS; exact List.mem_append_right _ h)
  have hc : Cond.codeWith y bytes maxL ret hh ∈ ws := by rw [hw]; exact List.mem_cons_self
  refine ⟨⟨hrc, hrs, hR.1, hR.2, pay_in ht hG, hc⟩, ht _ (hG _ hc).1, ok _ (by simp [va_wsS]), ⟨hd.1, hd.2.1⟩, fun sig h => ?_, ok _ (by simp [va_wsS]), ok _ (by simp [va_wsS])⟩
  have h2 := hd.2.2
  rw [h] at h2
  exact (Option.some.inj h2).symm
theorem vx_callSW (X : Stand p l e R s m args below meth c T locs cells slots) (hexec : p.tables.exec = Jvm.exec) {own : String} {index : Nat} {y : MethodName} {bytes : ByteArray} {maxL : Nat} {ret : Option FieldType} {hh : List (Nat × Nat × Nat × Nat)}
    (hown : s.vm.findClass own = some m.cls) (hlink : (Cond.methodLink own index y).before args s = true) (hstat : (Cond.static y).before args s = true) (hinit : (Cond.initialized y.cls).before args s = true)
    (hcode : (Cond.codeWith y bytes maxL ret hh).before args s = true) (hy : y.cls ≠ "java/lang/invoke/MethodHandle" ∧ y.cls ≠ "java/lang/invoke/VarHandle")
    {W9 : Nat} {Pre : Pt → Array Value → Prop} {Post : Pt → Array Value → Option Value → Pt → Prop} (hK : Back l R p e below s args y 3 W9 Pre Post)
    {g : JFrame} (hg : g.method = m) (hsize : g.locals.size = c.maxLocals) {argsL rest : List Value} (hlen : ∀ sig, parseMethodDescriptor y.desc = some sig → argsL.length = sig.parameters.length)
    (hstack : g.stack = argsL.reverse ++ rest) (hW : 2 * g.monitorRoom + (rest.map fun v => v.category).sum ≤ W9) (hdg : decode c.code g.pc = .ok (.invokestatic index, 3))
    (hpre : ∀ vm₁, s.WarmedH vm₁ → Pre ⟨T.setVm vm₁, locs, cells, slots⟩ argsL.toArray) :
    ∃ (v : Option Value) (vm₁ : Vm) (B : Pt), s.WarmedH vm₁ ∧ Stand p l e R s m args below meth c B.U B.locs B.cells B.slots ∧ Post ⟨T.setVm vm₁, locs, cells, slots⟩ argsL.toArray v B ∧
      ∀ target, Steps p.tables e below (B.U.setTop { g with pc := g.pc + 3, stack := v.toList ++ rest }) target → Steps p.tables e below (T.setTop g) target := by
  obtain ⟨mk, methM, cM, hnamed, hmethM, -, -, -, -, -, -, hsigM⟩ := Cond.codeWith_spec hcode
  have hstatic : methM.isStatic = true := Cond.static_spec hnamed hmethM hstat
  obtain ⟨kP, hkP, -⟩ := className_of_methodNamed hnamed
  have hinitP : kP.init = .initialized := Cond.initialized_spec (findClass_of_methodNamed hnamed) hkP hinit
  obtain ⟨vm₁, X₁, hstep₁⟩ := X.invokestatic hexec hown hlink hnamed hmethM hstatic hkP hinitP hy (g := g) hg (argsL := argsL) (rest := rest) (hlen _ hsigM) hstack hdg
  obtain ⟨v, B, X', hpost, hsteps⟩ := hK m meth c ⟨T.setVm vm₁, locs, cells, slots⟩ { g with stack := rest } (.invokestatic index) mk argsL.toArray X₁ hg hsize hdg hW (X₁.named hnamed) (hpre vm₁ X₁.warmed)
  exact ⟨v, vm₁, B, X₁.warmed, X', hpost, fun target h => hstep₁ _ fun acts => by rw [doInvoke_state]; exact hsteps.trans h⟩
theorem vx_runSW {y : MethodName} {bytes cc : ByteArray} {maxL nL mc ms n index : Nat} {ret : Option FieldType} {hh : List (Nat × Nat × Nat × Nat)} {ws : List Cond} {rm : Room} {Pc : Array Value → State → Prop} {Qc : Array Value → State → Outcome → State → Prop} {free : Addr → Prop} {Ts : List Cond} {own : String} {As rest : List Value} {g : JFrame}
    (S : CallFix p m c cc nL s args Ts own) (hM : Met l y ws rm Pc Qc mc ms free) (cw : vx_CSW R s args own index y bytes maxL ret hh ws rm mc ms n) (hp : PreS s H Pc As)
    (hg : g.method = m) (hn : As.length = n) (hsize : g.locals.size = nL) (hstack : g.stack = As.reverse ++ rest) (hW : 2 * g.monitorRoom + (rest.map fun v => v.category).sum ≤ 8) (hdg : decode cc g.pc = .ok (.invokestatic index, 3)) (hf : cells + mc ≤ R.cells ∧ slots + ms ≤ R.slots) :
    va_Run p l e R s m args below meth c H locs cells slots mc ms g rest (Qc As.toArray) (free) := by
  obtain ⟨⟨hrc, hrs, hfr, hlo, hws, hcw⟩, hcode, hini, hy, hlen, hl, hstt⟩ := cw
  have hK : Back l R p e below s args y 3 8 (PreOf R mc ms Pc) (PostOf Qc mc ms free) := va_backW (hh := hh) (bytes := bytes) (maxL := maxL) (ret := ret) hM hp.1 hrc hrs hfr hlo hws hcw (fun a' U hW => word_at hW (Or.inl (by first | rfl | simp [Cond.onTables, Cond.keeps, Cond.steady])) hini)
  obtain ⟨hx, hb, hml, ho, -⟩ := S
  intro T hT X
  obtain ⟨v, vm₁, ⟨U', l2, c2, s2⟩, hW₁, X', ⟨g', mk, t, L, e1, e2, hq, h1, hL, h2, h3⟩, st⟩ := vx_callSW X hx (hh := hh) (bytes := bytes) (maxL := maxL) (ret := ret) ho hl hstt hini hcode hy hK hg (hsize.trans hml.symm) (argsL := As) (rest := rest) (fun sig h => hn.trans (hlen sig h)) hstack hW (by rw [hb]; exact hdg)
    (fun vm₁ hW₁ => ⟨hf.1, hf.2, hp.2 (T.setVm vm₁) hT hW₁⟩)
  dsimp only [Pt.U, Pt.locs, Pt.cells, Pt.slots] at X' e1 e2 h1 h2 h3 st
  subst h1; subst h2; subst h3
  exact ⟨v, (T.setVm vm₁).calling g' mk As.toArray, t, U', L, hT, X', hL, e1, e2, hq, st⟩
/-- not caught here, past rows that name other classes: it goes on to the caller -/
theorem vx_outP {p : Program} {l : Launch} {e : Env} {R : Room} {s : State} {m : MethodId} {args : Array Value} {below : List Frame} {meth : Method} {c : Code} {H : Heap} {locs : List Loc} {cells slots : Nat} {free : Addr → Prop} {ls : Array Slot} {rest : List Value} {Qc : Array Value → State → Outcome → State → Prop} {XC : String → State → State → Prop}
    {pc : Nat} {own E : String} {ce : Cell} {q : Addr} {mc ms : Nat} (hown : s.vm.findClass own = some m.cls) (hlocks : meth.locks = false)
    (hpass : ∀ z ∈ c.exceptionTable.toList, covers z pc = false ∨ (z.catchType ≠ 0 ∧ ∃ nm : String, (Cond.classLink own z.catchType nm).before args s = true ∧ va_Nc E nm s)) (hcell : H[q]? = some ce) (hv : ce.vm = .none) (hcl : s.vm.findClass E = some ce.cls)
    (hx : ∀ t : State, t.heap = H → s.vm.Alike t.vm → XC E s t) (hf : ∀ z ∈ locs, free z.base) (hc : cells ≤ mc) (hs : slots ≤ ms) :
    vx_W p l e R s m args below meth c H locs cells slots (vx_MQ below Qc XC args s mc ms free) (F0 m pc ls rest) q := by
  intro T hT X
  have hpl : e.platform.magicAccessors = ({} : Platform).magicAccessors := by rw [X.admits.platform]
  obtain ⟨vm', hW', X', st⟩ := X.outThrough hlocks q (g := F0 m pc ls rest) rfl rfl rfl (cell := ce) (by rw [hT]; exact hcell) (by rw [hv]; rfl)
    (by obtain ⟨k9, h9, -⟩ := Vm.findClass_spec hcl; exact ⟨k9, h9⟩) (fun z hz => by
      rcases hpass z hz with h | ⟨hz0, nm, hl1, hn1⟩
      · exact Or.inl h
      · obtain ⟨c6, hc6, hcl6⟩ := Cond.classLink_spec hown hl1 e.platform hpl
        obtain ⟨a8, b8, h1, h2, h3⟩ := hn1
        cases Option.some.inj (h1.symm.trans hcl)
        cases Option.some.inj (h2.symm.trans hc6)
        exact Or.inr ⟨hz0, _, hcl6, h3⟩)
  obtain ⟨g₀, hfr⟩ := X'.frames_eq
  have hcell9 : ((T.setVm vm').setFrames (.throwing q :: below)).heap[q]? = some ce := by
    show T.heap[q]? = some ce
    rw [hT]; exact hcell
  have hend : Ended ((T.setVm vm').setFrames (.throwing q :: below)) below (.threw q) := State.frames_setFrames _ (State.cur_lt_of_frames hfr)
  refine ⟨(T.setVm vm').setFrames (.throwing q :: below), ?_, .threw q, X'.here.running, hend, Or.inr ⟨q, rfl, E, ce, locs, hx _ hT (X'.ends _).1.alike, hcell9, hv, hcl, (X'.ends _).1, (X'.ends _).2.mono hc hs, hf⟩⟩
  rw [X.pushThrowing_eq]
  exact st
/-- a thing of a world lies in the heap -/
theorem vx_lt {D : va_G} {cl : List vw_C} {ws : va_W} {H1 : Heap} (h : va_P D cl ws H1) {k : Nat} {q : Nat × va_E} (hk : ws[k]? = some q) : q.1 < H1.size := (h k q hk).lt
end VXS
/-! ===== END ===== -/
/-! ===== BEGIN methods with a table of their own: called by a name, returning or throwing ===== -/
section VXH
/-! vx_backW, vx_callVX, vx_callSX, vx_callVW, vx_runVW, vx_runVX, vx_runSX, vx_ofWH follow the same proofs as their sisters above (Free/Laws.lean, Shelf42/LK1.lean); vx_outP calls Shelf42/NT130.lean (outThrough). -/
section
variable {l : Launch} {R : Room} {p : Program} {e : Env} {below : List Frame} {s : State} {sargs : Array Value} {y : MethodName} {len W9 : Nat}
theorem vx_backW {ws : List Cond} {rm : Room} {Pc : Array Value → State → Prop} {Qc : Array Value → State → Outcome → State → Prop} {XC : String → State → State → Prop} {mc ms : Nat} {free : Addr → Prop} {bytes : ByteArray} {maxL : Nat} {ret : Option FieldType} {hh : List (Nat × Nat × Nat × Nat)}
    (hM : vx_Met l y ws rm Pc Qc XC mc ms free) (hblind : FrameBlind Pc) (hrc : rm.cells = mc) (hrs : rm.slots = ms)
    (hframes : rm.frames + 1 ≤ R.frames) (hlocals : W9 + (maxL + 11) + rm.locals ≤ R.locals)
    (hws : ∀ w ∈ ws, ∀ a' U, s.WarmedH U.vm → w.before a' U = true) (hcode : Cond.codeWith y bytes maxL ret hh ∈ ws) (hinit : ∀ a' U, s.WarmedH U.vm → (Cond.initialized y.cls).before a' U = true) :
    vx_Back l R p e below s sargs y len W9 (PreOf R mc ms Pc) (PostOf Qc mc ms free) (vx_Post XC mc ms free) := by
  intro m meth c A g ig mk a X hg hsize hdg hW hn hp
  have h1 : (headSpec ws rm).pre.before a A.U = true := atoms_intro fun w hw => hws w hw _ _ X.warmed
  have h2 : (Cond.codeWith y bytes maxL ret hh).before a A.U = true := hws _ hcode _ _ X.warmed
  have h3 : (Cond.initialized y.cls).before a A.U = true := hinit _ _ X.warmed
  have h4 : A.cells + (headSpec ws rm).room.cells ≤ R.cells := by rw [show (headSpec ws rm).room.cells = mc from hrc]; exact hp.1
  have h5 : A.slots + (headSpec ws rm).room.slots ≤ R.slots := by rw [show (headSpec ws rm).room.slots = ms from hrs]; exact hp.2.1
  have hPc : Pc a (A.U.calling g mk a) := hblind _ _ _ _ hp.2.2
  obtain ⟨U, Ls, c0, s0⟩ := A
  dsimp only [Pt.U, Pt.locs, Pt.cells, Pt.slots] at h1 h2 h3 h4 h5 X hn hPc ⊢
  obtain ⟨m9, methY, cY, hn9, hmY, hcY, -, hlY, -⟩ := Cond.codeWith_spec h2
  cases Option.some.inj (hn9.symm.trans hn)
  obtain ⟨kY, hkY, -⟩ := className_of_methodNamed hn
  have hinitY : kY.init = .initialized := Cond.initialized_spec (findClass_of_methodNamed hn) hkY h3
  have h : At U g.method c below := by rw [hg]; exact X.here
  have hlocals9 : W9 + (maxL + 11) + (headSpec ws rm).room.locals ≤ R.locals := hlocals
  have happ : (headSpec ws rm).appliesLoose y e.platform (U.calling g mk a) = true :=
    Spec.appliesLoose_calling (g := g) h hdg hn hkY hinitY
      (X.room_calling (g := g) (R' := (headSpec ws rm).room) hsize hmY hcY hframes (by rw [hlY]; omega) h4 h5) h1
  obtain ⟨mid, hmid⟩ := h.above
  have hfr : (U.setTop g).frames = (.java g :: mid) ++ below := by rw [State.frames_setTop' g h.top, hmid]; rfl
  obtain ⟨o, s₂, hsteps, -, hend, hq⟩ := Steps.callFree hM p X.admits X.cas X.clock (acts := []) hfr happ hPc trivial
  have hq' : vx_Q Qc XC mc ms free a (U.calling g mk a) o s₂ := hq
  rw [State.frames_setTop' g h.top] at hend
  obtain ⟨g₀, hg0⟩ := Option.isSome_iff_exists.mp h.top
  obtain ⟨r, hr⟩ := State.topJava?_eq_some.mp hg0
  have hr' : (({ U with heap := s₂.heap, slotsUsed := s₂.slotsUsed } : State).setVm s₂.vm).frames = .java g₀ :: r := hr
  rcases hq' with ⟨hqc, L, hfe, hL⟩ | ⟨q, rfl, E, ce, L, hx, hce, hcv, hcl, hW₂, hsm, hL⟩
  · obtain ⟨⟨v, rfl⟩, hW₂, e2, q2, q3, q4, q5, q6⟩ := id hfe
    have e3 : s₂ = ({ (U.calling g mk a).setFrames s₂.frames with heap := s₂.heap, slotsUsed := s₂.slotsUsed } : State).setVm s₂.vm := by
      have : s₂ = ({ s₂ with vm := (U.calling g mk a).vm } : State).setVm s₂.vm := rfl
      rw [e2] at this
      exact this
    obtain ⟨c₂, i₂, len₂, hc₂, hd₂, hf₂⟩ := hend
    have hW' : U.WarmedH s₂.vm := hW₂
    have hcc : c₂ = c := by
      have h1 : s₂.code? g.method = U.code? g.method := by
        rw [State.code?_eq, State.code?_eq, hW'.alike.method?]
      exact Option.some.inj (hc₂.symm.trans (h1.trans h.code))
    subst hcc
    have hlen : len₂ = len := by rw [hdg] at hd₂; cases hd₂; rfl
    subst hlen
    have hs₂ : s₂ = (({ U with heap := s₂.heap, slotsUsed := s₂.slotsUsed } : State).setVm s₂.vm).setTop { g with pc := g.pc + len₂, stack := v.toList ++ g.stack } := by
      refine e3.trans ?_
      rw [hf₂, State.calling_eq h.top, State.setFrames_setFrames, State.setTop_of_frames _ hr', hr]
      rfl
    have hsame : U.sameButNew ({ U with heap := s₂.heap, slotsUsed := s₂.slotsUsed } : State) L mc ms := by
      refine ⟨?_, q2, q3, q4, q5, q6⟩
      obtain ⟨t, ht, -⟩ := State.frames_cons hr
      show ({ U with heap := s₂.heap, slotsUsed := s₂.slotsUsed } : State) = { U.setFrames U.frames with heap := s₂.heap, slotsUsed := s₂.slotsUsed }
      rw [State.setFrames_self ht]
    subst hg
    refine Or.inl ⟨v, ⟨(({ U with heap := s₂.heap, slotsUsed := s₂.slotsUsed } : State).setVm s₂.vm), Ls ++ L, c0 + mc, s0 + ms⟩,
      ⟨X.admits, X.cas, X.clock, X.frames, X.room, X.hears, X.method, X.code, (X.here.setHeapUsed s₂.heap s₂.slotsUsed).setVm hW'.alike, X.tail, State.WarmedH.trans X.warmed hW', X.limits, X.bytes, X.same.trans (hsame.setVm s.vm)⟩,
      ⟨g, mk, s₂, L, rfl, rfl, hqc, rfl, hL, rfl, rfl⟩, ?_⟩
    show Steps p.tables e below _ ((({ U with heap := s₂.heap, slotsUsed := s₂.slotsUsed } : State).setVm s₂.vm).setTop { g with pc := g.pc + len₂, stack := v.toList ++ g.stack })
    rw [← hs₂]
    exact hsteps
  · obtain ⟨e2, q2, q3, q4, q5, q6⟩ := id hsm
    have e3 : s₂ = ({ (U.calling g mk a).setFrames s₂.frames with heap := s₂.heap, slotsUsed := s₂.slotsUsed } : State).setVm s₂.vm := by
      have : s₂ = ({ s₂ with vm := (U.calling g mk a).vm } : State).setVm s₂.vm := rfl
      rw [e2] at this
      exact this
    have hf₂ : s₂.frames = .throwing q :: .java g :: U.frames.tail := hend
    have hW' : U.WarmedH s₂.vm := hW₂
    have hs₂ : s₂ = ((({ U with heap := s₂.heap, slotsUsed := s₂.slotsUsed } : State).setVm s₂.vm).setTop g).pushFrame (.throwing q) := by
      refine e3.trans ?_
      rw [hf₂, State.calling_eq h.top, State.setFrames_setFrames, State.pushFrame, State.frames_setTop _ hr', State.setTop_of_frames _ hr', State.setFrames_setFrames, hr]
      rfl
    have hsame : U.sameButNew ({ U with heap := s₂.heap, slotsUsed := s₂.slotsUsed } : State) L mc ms := by
      refine ⟨?_, q2, q3, q4, q5, q6⟩
      obtain ⟨t, ht, -⟩ := State.frames_cons hr
      show ({ U with heap := s₂.heap, slotsUsed := s₂.slotsUsed } : State) = { U.setFrames U.frames with heap := s₂.heap, slotsUsed := s₂.slotsUsed }
      rw [State.setFrames_self ht]
    subst hg
    refine Or.inr ⟨q, ⟨(({ U with heap := s₂.heap, slotsUsed := s₂.slotsUsed } : State).setVm s₂.vm), Ls ++ L, c0 + mc, s0 + ms⟩,
      ⟨X.admits, X.cas, X.clock, X.frames, X.room, X.hears, X.method, X.code, (X.here.setHeapUsed s₂.heap s₂.slotsUsed).setVm hW'.alike, X.tail, State.WarmedH.trans X.warmed hW', X.limits, X.bytes, X.same.trans (hsame.setVm s.vm)⟩,
      ⟨g, mk, s₂, L, E, ce, rfl, rfl, hx, hce, hcv, hcl, rfl, hL, rfl, rfl⟩, ?_⟩
    show Steps p.tables e below _ (((({ U with heap := s₂.heap, slotsUsed := s₂.slotsUsed } : State).setVm s₂.vm).setTop g).pushFrame (.throwing q))
    rw [← hs₂]
    exact hsteps
end
variable {p : Program} {l : Launch} {e : Env} {R : Room} {s : State} {m : MethodId} {args : Array Value} {below : List Frame} {meth : Method} {c : Code} {T : State} {H : Heap} {locs : List Loc} {cells slots : Nat}
theorem vx_callVX (X : Stand p l e R s m args below meth c T locs cells slots) (hexec : p.tables.exec = Jvm.exec) {own C : String} {index : Nat} {y : MethodName} {bytes : ByteArray} {maxL : Nat} {ret : Option FieldType} {hh : List (Nat × Nat × Nat × Nat)}
    (hown : s.vm.findClass own = some m.cls) (hlink : (Cond.methodLink own index y).before args s = true) (hinst : (Cond.instanceMethod y).before args s = true) (hsel : (Cond.selects C y y).before args s = true)
    (hcode : (Cond.codeWith y bytes maxL ret hh).before args s = true) (hy : y.cls ≠ "java/lang/invoke/MethodHandle" ∧ y.cls ≠ "java/lang/invoke/VarHandle")
    {W9 : Nat} {Pre : Pt → Array Value → Prop} {Post : Pt → Array Value → Option Value → Pt → Prop} {PostX : Pt → Array Value → Addr → Pt → Prop} (hK : vx_Back l R p e below s args y 3 W9 Pre Post PostX)
    {b : Addr} {cellB : Cell} (hcell : T.heap[b]? = some cellB) (hobj : cellB.vm.isStatics = false) (hcls : s.vm.findClass C = some cellB.cls)
    {g : JFrame} (hg : g.method = m) (hsize : g.locals.size = c.maxLocals) {argsL rest : List Value} (hlen : ∀ sig, parseMethodDescriptor y.desc = some sig → argsL.length = sig.parameters.length)
    (hstack : g.stack = argsL.reverse ++ .ref b :: rest) (hW : 2 * g.monitorRoom + (rest.map fun v => v.category).sum ≤ W9) (hdg : decode c.code g.pc = .ok (.invokevirtual index, 3))
    (hpre : ∀ vm₁, s.WarmedH vm₁ → Pre ⟨T.setVm vm₁, locs, cells, slots⟩ (Value.ref b :: argsL).toArray) :
    (∃ (v : Option Value) (vm₁ : Vm) (B : Pt), s.WarmedH vm₁ ∧ Stand p l e R s m args below meth c B.U B.locs B.cells B.slots ∧ Post ⟨T.setVm vm₁, locs, cells, slots⟩ (Value.ref b :: argsL).toArray v B ∧
      ∀ target, Steps p.tables e below (B.U.setTop { g with pc := g.pc + 3, stack := v.toList ++ rest }) target → Steps p.tables e below (T.setTop g) target) ∨
    (∃ (q : Addr) (vm₁ : Vm) (B : Pt), s.WarmedH vm₁ ∧ Stand p l e R s m args below meth c B.U B.locs B.cells B.slots ∧ PostX ⟨T.setVm vm₁, locs, cells, slots⟩ (Value.ref b :: argsL).toArray q B ∧
      Steps p.tables e below (T.setTop g) ((B.U.setTop { g with stack := rest }).pushFrame (.throwing q))) := by
  obtain ⟨mk, methM, hnamed, hmethM, hstM, habM⟩ := Cond.instanceMethod_spec hinst
  obtain ⟨m8, methM', cM, hn8, hmethM', -, -, -, -, -, -, hsigM⟩ := Cond.codeWith_spec hcode
  cases Option.some.inj (hn8.symm.trans hnamed)
  cases hmethM.symm.trans hmethM'
  obtain ⟨c2, r2, m2, q1, q2, q3, q4, kP, hkP, hkPi⟩ := Cond.selects_spec hsel
  cases hcls.symm.trans q1
  cases (State.methodFound?_of_named hnamed hy).symm.trans q2
  cases hnamed.symm.trans q3
  have hselP : selectMethod e.platform s.vm cellB.cls mk = .method mk := by rw [Launch.admits_selectMethod X.admits]; exact q4
  obtain ⟨vm₁, X₁, hstep₁⟩ := X.invokevirtual hexec hown hlink hnamed hmethM hstM hkP hkPi hy (a := b) (cell := cellB) hcell
    (fun z h => by rw [h] at hobj; cases hobj) hselP hmethM habM hkP hkPi (g := g) hg (argsL := argsL) (rest := rest) (hlen _ hsigM) hstack hdg
  rcases hK m meth c ⟨T.setVm vm₁, locs, cells, slots⟩ { g with stack := rest } (.invokevirtual index) mk (Value.ref b :: argsL).toArray X₁ hg hsize hdg hW (X₁.named hnamed) (hpre vm₁ X₁.warmed) with ⟨v, B, X', hpost, hsteps⟩ | ⟨q, B, X', hpost, hsteps⟩
  · exact Or.inl ⟨v, vm₁, B, X₁.warmed, X', hpost, fun target h => hstep₁ _ fun acts => by rw [doInvoke_state]; exact hsteps.trans h⟩
  · exact Or.inr ⟨q, vm₁, B, X₁.warmed, X', hpost, hstep₁ _ fun acts => by rw [doInvoke_state]; exact hsteps⟩
theorem vx_callSX (X : Stand p l e R s m args below meth c T locs cells slots) (hexec : p.tables.exec = Jvm.exec) {own : String} {index : Nat} {y : MethodName} {bytes : ByteArray} {maxL : Nat} {ret : Option FieldType} {hh : List (Nat × Nat × Nat × Nat)}
    (hown : s.vm.findClass own = some m.cls) (hlink : (Cond.methodLink own index y).before args s = true) (hstat : (Cond.static y).before args s = true) (hinit : (Cond.initialized y.cls).before args s = true)
    (hcode : (Cond.codeWith y bytes maxL ret hh).before args s = true) (hy : y.cls ≠ "java/lang/invoke/MethodHandle" ∧ y.cls ≠ "java/lang/invoke/VarHandle")
    {W9 : Nat} {Pre : Pt → Array Value → Prop} {Post : Pt → Array Value → Option Value → Pt → Prop} {PostX : Pt → Array Value → Addr → Pt → Prop} (hK : vx_Back l R p e below s args y 3 W9 Pre Post PostX)
    {g : JFrame} (hg : g.method = m) (hsize : g.locals.size = c.maxLocals) {argsL rest : List Value} (hlen : ∀ sig, parseMethodDescriptor y.desc = some sig → argsL.length = sig.parameters.length)
    (hstack : g.stack = argsL.reverse ++ rest) (hW : 2 * g.monitorRoom + (rest.map fun v => v.category).sum ≤ W9) (hdg : decode c.code g.pc = .ok (.invokestatic index, 3))
    (hpre : ∀ vm₁, s.WarmedH vm₁ → Pre ⟨T.setVm vm₁, locs, cells, slots⟩ argsL.toArray) :
    (∃ (v : Option Value) (vm₁ : Vm) (B : Pt), s.WarmedH vm₁ ∧ Stand p l e R s m args below meth c B.U B.locs B.cells B.slots ∧ Post ⟨T.setVm vm₁, locs, cells, slots⟩ argsL.toArray v B ∧
      ∀ target, Steps p.tables e below (B.U.setTop { g with pc := g.pc + 3, stack := v.toList ++ rest }) target → Steps p.tables e below (T.setTop g) target) ∨
    (∃ (q : Addr) (vm₁ : Vm) (B : Pt), s.WarmedH vm₁ ∧ Stand p l e R s m args below meth c B.U B.locs B.cells B.slots ∧ PostX ⟨T.setVm vm₁, locs, cells, slots⟩ argsL.toArray q B ∧
      Steps p.tables e below (T.setTop g) ((B.U.setTop { g with stack := rest }).pushFrame (.throwing q))) := by
  obtain ⟨mk, methM, cM, hnamed, hmethM, -, -, -, -, -, -, hsigM⟩ := Cond.codeWith_spec hcode
  have hstatic : methM.isStatic = true := Cond.static_spec hnamed hmethM hstat
  obtain ⟨kP, hkP, -⟩ := className_of_methodNamed hnamed
  have hinitP : kP.init = .initialized := Cond.initialized_spec (findClass_of_methodNamed hnamed) hkP hinit
  obtain ⟨vm₁, X₁, hstep₁⟩ := X.invokestatic hexec hown hlink hnamed hmethM hstatic hkP hinitP hy (g := g) hg (argsL := argsL) (rest := rest) (hlen _ hsigM) hstack hdg
  rcases hK m meth c ⟨T.setVm vm₁, locs, cells, slots⟩ { g with stack := rest } (.invokestatic index) mk argsL.toArray X₁ hg hsize hdg hW (X₁.named hnamed) (hpre vm₁ X₁.warmed) with ⟨v, B, X', hpost, hsteps⟩ | ⟨q, B, X', hpost, hsteps⟩
  · exact Or.inl ⟨v, vm₁, B, X₁.warmed, X', hpost, fun target h => hstep₁ _ fun acts => by rw [doInvoke_state]; exact hsteps.trans h⟩
  · exact Or.inr ⟨q, vm₁, B, X₁.warmed, X', hpost, hstep₁ _ fun acts => by rw [doInvoke_state]; exact hsteps⟩
theorem vx_callVW (X : Stand p l e R s m args below meth c T locs cells slots) (hexec : p.tables.exec = Jvm.exec) {own C : String} {index : Nat} {y : MethodName} {bytes : ByteArray} {maxL : Nat} {ret : Option FieldType} {hh : List (Nat × Nat × Nat × Nat)}
    (hown : s.vm.findClass own = some m.cls) (hlink : (Cond.methodLink own index y).before args s = true) (hinst : (Cond.instanceMethod y).before args s = true) (hsel : (Cond.selects C y y).before args s = true)
    (hcode : (Cond.codeWith y bytes maxL ret hh).before args s = true) (hy : y.cls ≠ "java/lang/invoke/MethodHandle" ∧ y.cls ≠ "java/lang/invoke/VarHandle")
    {W9 : Nat} {Pre : Pt → Array Value → Prop} {Post : Pt → Array Value → Option Value → Pt → Prop} (hK : Back l R p e below s args y 3 W9 Pre Post)
    {b : Addr} {cellB : Cell} (hcell : T.heap[b]? = some cellB) (hobj : cellB.vm.isStatics = false) (hcls : s.vm.findClass C = some cellB.cls)
    {g : JFrame} (hg : g.method = m) (hsize : g.locals.size = c.maxLocals) {argsL rest : List Value} (hlen : ∀ sig, parseMethodDescriptor y.desc = some sig → argsL.length = sig.parameters.length)
    (hstack : g.stack = argsL.reverse ++ .ref b :: rest) (hW : 2 * g.monitorRoom + (rest.map fun v => v.category).sum ≤ W9) (hdg : decode c.code g.pc = .ok (.invokevirtual index, 3))
    (hpre : ∀ vm₁, s.WarmedH vm₁ → Pre ⟨T.setVm vm₁, locs, cells, slots⟩ (Value.ref b :: argsL).toArray) :
    ∃ (v : Option Value) (vm₁ : Vm) (B : Pt), s.WarmedH vm₁ ∧ Stand p l e R s m args below meth c B.U B.locs B.cells B.slots ∧ Post ⟨T.setVm vm₁, locs, cells, slots⟩ (Value.ref b :: argsL).toArray v B ∧
      ∀ target, Steps p.tables e below (B.U.setTop { g with pc := g.pc + 3, stack := v.toList ++ rest }) target → Steps p.tables e below (T.setTop g) target := by
  obtain ⟨mk, methM, hnamed, hmethM, hstM, habM⟩ := Cond.instanceMethod_spec hinst
  obtain ⟨m8, methM', cM, hn8, hmethM', -, -, -, -, -, -, hsigM⟩ := Cond.codeWith_spec hcode
  cases Option.some.inj (hn8.symm.trans hnamed)
  cases hmethM.symm.trans hmethM'
  obtain ⟨c2, r2, m2, q1, q2, q3, q4, kP, hkP, hkPi⟩ := Cond.selects_spec hsel
  cases hcls.symm.trans q1
  cases (State.methodFound?_of_named hnamed hy).symm.trans q2
  cases hnamed.symm.trans q3
  have hselP : selectMethod e.platform s.vm cellB.cls mk = .method mk := by rw [Launch.admits_selectMethod X.admits]; exact q4
  obtain ⟨vm₁, X₁, hstep₁⟩ := X.invokevirtual hexec hown hlink hnamed hmethM hstM hkP hkPi hy (a := b) (cell := cellB) hcell
    (fun z h => by rw [h] at hobj; cases hobj) hselP hmethM habM hkP hkPi (g := g) hg (argsL := argsL) (rest := rest) (hlen _ hsigM) hstack hdg
  obtain ⟨v, B, X', hpost, hsteps⟩ := hK m meth c ⟨T.setVm vm₁, locs, cells, slots⟩ { g with stack := rest } (.invokevirtual index) mk (Value.ref b :: argsL).toArray X₁ hg hsize hdg hW (X₁.named hnamed) (hpre vm₁ X₁.warmed)
  exact ⟨v, vm₁, B, X₁.warmed, X', hpost, fun target h => hstep₁ _ fun acts => by rw [doInvoke_state]; exact hsteps.trans h⟩
abbrev vx_CVW (R : Room) (s : State) (args : Array Value) (own C : String) (index : Nat) (y : MethodName) (bytes : ByteArray) (maxL : Nat) (ret : Option FieldType) (hh : List (Nat × Nat × Nat × Nat)) (ws : List Cond) (rm : Room) (mc ms n : Nat) : Prop :=
  (rm.cells = mc ∧ rm.slots = ms ∧ rm.frames + 1 ≤ R.frames ∧ 8 + (maxL + 11) + rm.locals ≤ R.locals ∧ (∀ w ∈ ws, ∀ (a' : Array Value) (U : State), s.WarmedH U.vm → w.before a' U = true) ∧ Cond.codeWith y bytes maxL ret hh ∈ ws) ∧
  (Cond.codeWith y bytes maxL ret hh).before args s = true ∧ (Cond.initialized y.cls).before args s = true ∧ (y.cls ≠ "java/lang/invoke/MethodHandle" ∧ y.cls ≠ "java/lang/invoke/VarHandle") ∧
  (∀ sig, parseMethodDescriptor y.desc = some sig → n = sig.parameters.length) ∧ (Cond.methodLink own index y).before args s = true ∧ (Cond.instanceMethod y).before args s = true ∧ (Cond.selects C y y).before args s = true
theorem vx_cwVW {own C : String} {index maxL mc ms : Nat} {y : MethodName} {bytes : ByteArray} {ret : Option FieldType} {hh : List (Nat × Nat × Nat × Nat)} {Ts ws ws' : List Cond} {rm : Room} (n : Nat) (ht : ∀ w ∈ Ts, w.before args s = true) (hT : GoodIn Ts (wsV own index C y ws)) (hw : ws = Cond.codeWith y bytes maxL ret hh :: ws') (hrc : rm.cells = mc) (hrs : rm.slots = ms)
    (hd : y.cls = C ∧ y.cls ≠ "java/lang/invoke/MethodHandle" ∧ y.cls ≠ "java/lang/invoke/VarHandle" ∧ (parseMethodDescriptor y.desc).map (fun d => d.parameters.length) = some n) (hR : rm.frames + 1 ≤ R.frames ∧ 8 + (maxL + 11) + rm.locals ≤ R.locals) :
    vx_CVW R s args own C index y bytes maxL ret hh ws rm mc ms n := by
  obtain ⟨hC, hd⟩ := hd
  subst hC
  have ok : ∀ w ∈ wsV own index y.cls y ws, w.before args s = true := fun w h => ht w (hT w h).1
  have hG : GoodIn Ts ws := fun w h => hT w (by unfold wsV; exact List.mem_append_right _ h)
  have hc : Cond.codeWith y bytes maxL ret hh ∈ ws := by rw [hw]; exact List.mem_cons_self
  refine ⟨⟨hrc, hrs, hR.1, hR.2, pay_in ht hG, hc⟩, ht _ (hG _ hc).1, ok _ (by simp [wsV]), ⟨hd.1, hd.2.1⟩, fun sig h => ?_, ok _ (by simp [wsV]), ok _ (by simp [wsV]), ok _ (by simp [wsV])⟩
  have h2 := hd.2.2
  rw [h] at h2
  exact (Option.some.inj h2).symm
theorem vx_runVW {y : MethodName} {bytes cc : ByteArray} {maxL nL mc ms n index : Nat} {ret : Option FieldType} {hh : List (Nat × Nat × Nat × Nat)} {ws : List Cond} {rm : Room} {Pc : Array Value → State → Prop} {Qc : Array Value → State → Outcome → State → Prop} {free : Addr → Prop} {Ts : List Cond} {own C : String} {b : Addr} {As rest : List Value} {g : JFrame}
    (S : CallFix p m c cc nL s args Ts own) (hM : Met l y ws rm Pc Qc mc ms free) (cw : vx_CVW R s args own C index y bytes maxL ret hh ws rm mc ms n) (hp : PreV s H C b Pc As)
    (hg : g.method = m) (hn : As.length = n) (hsize : g.locals.size = nL) (hstack : g.stack = As.reverse ++ .ref b :: rest) (hW : 2 * g.monitorRoom + (rest.map fun v => v.category).sum ≤ 8) (hdg : decode cc g.pc = .ok (.invokevirtual index, 3)) (hf : cells + mc ≤ R.cells ∧ slots + ms ≤ R.slots) :
    va_Run p l e R s m args below meth c H locs cells slots mc ms g rest (Qc (Value.ref b :: As).toArray) free := by
  obtain ⟨⟨hrc, hrs, hfr, hlo, hws, hcw⟩, hcode, hini, hy, hlen, hl, hin, hse⟩ := cw
  have hK : Back l R p e below s args y 3 8 (PreOf R mc ms Pc) (PostOf Qc mc ms free) := va_backW (hh := hh) (bytes := bytes) (maxL := maxL) (ret := ret) hM hp.1 hrc hrs hfr hlo hws hcw (fun a' U hW => word_at hW (Or.inl (by first | rfl | simp [Cond.onTables, Cond.keeps, Cond.steady])) hini)
  obtain ⟨hx, hb, hml, ho, -⟩ := S
  obtain ⟨-, ⟨cellB, hcB, hoB, hclB⟩, hPc⟩ := hp
  intro T hT X
  obtain ⟨v, vm₁, ⟨U', l2, c2, s2⟩, hW₁, X', ⟨g', mk, t, L, e1, e2, hq, h1, hL, h2, h3⟩, st⟩ := vx_callVW X hx (C := C) (hh := hh) (bytes := bytes) (maxL := maxL) (ret := ret) ho hl hin hse hcode hy hK (by rw [hT]; exact hcB) hoB hclB hg (hsize.trans hml.symm) (argsL := As) (rest := rest) (fun sig h => hn.trans (hlen sig h)) hstack hW (by rw [hb]; exact hdg)
    (fun vm₁ hW₁ => ⟨hf.1, hf.2, hPc (T.setVm vm₁) hT hW₁⟩)
  dsimp only [Pt.U, Pt.locs, Pt.cells, Pt.slots] at X' e1 e2 h1 h2 h3 st
  subst h1; subst h2; subst h3
  exact ⟨v, (T.setVm vm₁).calling g' mk (Value.ref b :: As).toArray, t, U', L, hT, X', hL, e1, e2, hq, st⟩
section
variable {y : MethodName} {bytes cc : ByteArray} {maxL nL mc ms n index : Nat} {ret : Option FieldType} {ws : List Cond} {rm : Room} {Pc : Array Value → State → Prop} {Qc : Array Value → State → Outcome → State → Prop} {XC : String → State → State → Prop} {free : Addr → Prop} {Ts : List Cond} {own C : String} {b : Addr} {As rest : List Value} {g : JFrame}
theorem vx_runVX {hh : List (Nat × Nat × Nat × Nat)} (S : CallFix p m c cc nL s args Ts own) (hM : vx_Met l y ws rm Pc Qc XC mc ms free) (cw : vx_CVW R s args own C index y bytes maxL ret hh ws rm mc ms n) (hp : PreV s H C b Pc As)
    (hg : g.method = m) (hn : As.length = n) (hsize : g.locals.size = nL) (hstack : g.stack = As.reverse ++ .ref b :: rest) (hW : 2 * g.monitorRoom + (rest.map fun v => v.category).sum ≤ 8) (hdg : decode cc g.pc = .ok (.invokevirtual index, 3)) (hf : cells + mc ≤ R.cells ∧ slots + ms ≤ R.slots) :
    vx_Run p l e R s m args below meth c H locs cells slots mc ms g rest (Qc (Value.ref b :: As).toArray) XC free := by
  obtain ⟨⟨hrc, hrs, hfr, hlo, hws, hcw⟩, hcode, hini, hy, hlen, hl, hin, hse⟩ := cw
  have hK : vx_Back l R p e below s args y 3 8 (PreOf R mc ms Pc) (PostOf Qc mc ms free) (vx_Post XC mc ms free) := vx_backW (hh := hh) (bytes := bytes) (maxL := maxL) (ret := ret) hM hp.1 hrc hrs hfr hlo hws hcw (fun a' U hW => word_at hW (Or.inl (by first | rfl | simp [Cond.onTables, Cond.keeps, Cond.steady])) hini)
  obtain ⟨hx, hb, hml, ho, -⟩ := S
  obtain ⟨-, ⟨cellB, hcB, hoB, hclB⟩, hPc⟩ := hp
  intro T hT X
  rcases vx_callVX X hx (C := C) (hh := hh) (bytes := bytes) (maxL := maxL) (ret := ret) ho hl hin hse hcode hy hK (by rw [hT]; exact hcB) hoB hclB hg (hsize.trans hml.symm) (argsL := As) (rest := rest) (fun sig h => hn.trans (hlen sig h)) hstack hW (by rw [hb]; exact hdg)
    (fun vm₁ hW₁ => ⟨hf.1, hf.2, hPc (T.setVm vm₁) hT hW₁⟩) with ⟨v, vm₁, ⟨U', l2, c2, s2⟩, hW₁, X', ⟨g', mk, t, L, e1, e2, hq, h1, hL, h2, h3⟩, st⟩ | ⟨q, vm₁, ⟨U', l2, c2, s2⟩, hW₁, X', ⟨g', mk, t, L, E, ce, e1, e2, hq, hce, hcv, hcl, h1, hL, h2, h3⟩, st⟩
  · dsimp only [Pt.U, Pt.locs, Pt.cells, Pt.slots] at X' e1 e2 h1 h2 h3 st
    subst h1; subst h2; subst h3
    exact Or.inl ⟨v, (T.setVm vm₁).calling g' mk (Value.ref b :: As).toArray, t, U', L, hT, X', hL, e1, e2, hq, st⟩
  · dsimp only [Pt.U, Pt.locs, Pt.cells, Pt.slots] at X' e1 e2 h1 h2 h3 st hcl
    subst h1; subst h2; subst h3
    exact Or.inr ⟨q, (T.setVm vm₁).calling g' mk (Value.ref b :: As).toArray, t, U', L, E, ce, hT, X', hL, e1, e2, hq, hce, hcv, vx_cls hW₁ hcl, st⟩
theorem vx_runSX {hh : List (Nat × Nat × Nat × Nat)} (S : CallFix p m c cc nL s args Ts own) (hM : vx_Met l y ws rm Pc Qc XC mc ms free) (cw : vx_CSW R s args own index y bytes maxL ret hh ws rm mc ms n) (hp : PreS s H Pc As)
    (hg : g.method = m) (hn : As.length = n) (hsize : g.locals.size = nL) (hstack : g.stack = As.reverse ++ rest) (hW : 2 * g.monitorRoom + (rest.map fun v => v.category).sum ≤ 8) (hdg : decode cc g.pc = .ok (.invokestatic index, 3)) (hf : cells + mc ≤ R.cells ∧ slots + ms ≤ R.slots) :
    vx_Run p l e R s m args below meth c H locs cells slots mc ms g rest (Qc As.toArray) XC free := by
  obtain ⟨⟨hrc, hrs, hfr, hlo, hws, hcw⟩, hcode, hini, hy, hlen, hl, hstt⟩ := cw
  have hK : vx_Back l R p e below s args y 3 8 (PreOf R mc ms Pc) (PostOf Qc mc ms free) (vx_Post XC mc ms free) := vx_backW (hh := hh) (bytes := bytes) (maxL := maxL) (ret := ret) hM hp.1 hrc hrs hfr hlo hws hcw (fun a' U hW => word_at hW (Or.inl (by first | rfl | simp [Cond.onTables, Cond.keeps, Cond.steady])) hini)
  obtain ⟨hx, hb, hml, ho, -⟩ := S
  intro T hT X
  rcases vx_callSX X hx (hh := hh) (bytes := bytes) (maxL := maxL) (ret := ret) ho hl hstt hini hcode hy hK hg (hsize.trans hml.symm) (argsL := As) (rest := rest) (fun sig h => hn.trans (hlen sig h)) hstack hW (by rw [hb]; exact hdg)
    (fun vm₁ hW₁ => ⟨hf.1, hf.2, hp.2 (T.setVm vm₁) hT hW₁⟩) with ⟨v, vm₁, ⟨U', l2, c2, s2⟩, hW₁, X', ⟨g', mk, t, L, e1, e2, hq, h1, hL, h2, h3⟩, st⟩ | ⟨q, vm₁, ⟨U', l2, c2, s2⟩, hW₁, X', ⟨g', mk, t, L, E, ce, e1, e2, hq, hce, hcv, hcl, h1, hL, h2, h3⟩, st⟩
  · dsimp only [Pt.U, Pt.locs, Pt.cells, Pt.slots] at X' e1 e2 h1 h2 h3 st
    subst h1; subst h2; subst h3
    exact Or.inl ⟨v, (T.setVm vm₁).calling g' mk As.toArray, t, U', L, hT, X', hL, e1, e2, hq, st⟩
  · dsimp only [Pt.U, Pt.locs, Pt.cells, Pt.slots] at X' e1 e2 h1 h2 h3 st hcl
    subst h1; subst h2; subst h3
    exact Or.inr ⟨q, (T.setVm vm₁).calling g' mk As.toArray, t, U', L, E, ce, hT, X', hL, e1, e2, hq, hce, hcv, vx_cls hW₁ hcl, st⟩
end
end VXH
theorem vx_ofWH {l : Launch} {y : MethodName} {ws ws' : List Cond} {rm : Room} {Pc : Array Value → State → Prop} {Qc : Array Value → State → Outcome → State → Prop} {XC : String → State → State → Prop} {mc ms : Nat} {free : Addr → Prop} {cc : ByteArray} {maxL : Nat} {ret : Option FieldType} {hh : List (Nat × Nat × Nat × Nat)}
    (hy : plainName y.cls = true) (hw : ws = Cond.codeWith y cc maxL ret hh :: ws')
    (body : ∀ p e s m args below meth c s₁, BodyLoose p l y (headSpec ws rm) cc maxL ret e s m args below meth c s₁ → c.maxLocals = maxL → Pc args s →
      W p l e (headSpec ws rm).room s m args below meth c s.heap [] 0 0 (vx_MQ below Qc XC args s mc ms free) (entryFrame m args maxL)) : vx_Met l y ws rm Pc Qc XC mc ms free := by
  refine MetFree.of_bodyS (code := cc) (maxLocals := maxL) (ret := ret) hy ?_ ?_
  · intro args s m h hn
    obtain ⟨m9, meth, c, hn9, h1, h2, h3, h4, -, h5, h6, -⟩ := Cond.codeWith_spec (atoms_spec (ws := ws) h _ (by rw [hw]; exact List.mem_cons_self))
    cases hn.symm.trans hn9
    exact ⟨meth, c, h1, h2, h3, h4, h5, h6⟩
  · intro p e s m args below meth c s₁ B hml hP _
    have hh0 : s₁.heap = s.heap := by rw [B.state]; rfl
    obtain ⟨t, a1, o, b1, b2, b3⟩ := body p e s m args below meth c s₁ B hml hP s₁ hh0 (Stand.of_body B)
    exact ⟨t, o, a1, b1, b2, b3⟩
/-! ===== END ===== -/

/-! ===== BEGIN what the machine throws by itself, no traces kept ===== -/
section VXM
set_option maxHeartbeats 1000000 in
/-- the machine throws cls with the message text, no traces kept: from its note over the frame g to 'throwing' over the same frame (follows the proofs of Stand.vmThrowsMessage, Shelf/KitTracedVmS.lean, and Stand.throwsMessageColdBareV, StandMessageColdV.lean, without the step out of the frame) -/
theorem vx_vmAt {p : Program} {l : Launch} {e : Env} {R : Room} {s : State} {m₀ : MethodId} {args : Array Value} {below : List Frame} {meth : Method} {c : Code} {W : State} {locs : List Loc} {cells slots : Nat}
    (X : Stand p l e R s m₀ args below meth c W locs cells slots) (hexec : p.tables.exec = Jvm.exec) (htr : e.platform.stackTraces = false) {cls : String} {names : List String} {text : String}
    (hcls : Bundle.fit cls = true) (hnames : ∀ n ∈ names, Bundle.fit n = true) (hsoe : (cls == "java/lang/StackOverflowError") = false) (hoom : (cls == "java/lang/OutOfMemoryError") = false)
    (h : ∀ a ∈ Bundle.messageArmAtoms cls names, a.before args s = true)
    (hlocs : ∀ x ∈ locs, ∀ cell, s.heap[x.base]? = some cell → cell.vm.isStatics = false)
    (htext : (text == notModelled) = false) (hlimit : ¬ (stringBytes (stringToUtf16 text)).size > e.platform.arrayLengthLimit) (hheap : ¬ (stringBytes (stringToUtf16 text)).size * componentBytes .byte > e.platform.maxHeapBytes)
    {g : JFrame} (hg : g.method = m₀) (hsize : g.locals.size = c.maxLocals)
    (hRframes : names.length + 4 < R.frames) (hRlocals : 2 * g.monitorRoom + (g.stack.map fun v => v.category).sum + 10240 ≤ R.locals) (hshort : 13 * names.length + 55 ≤ 10240)
    (hRcells : cells + 3 ≤ R.cells) (hRslots : slots + ((stringBytes (stringToUtf16 text)).size + 4 + 6) ≤ R.slots) (hlocks : meth.locks = false) :
    ∃ (S : State) (q : Addr) (ce : Cell), (∀ target, Steps p.tables e below ((S.setTop g).pushFrame (.throwing q)) target → Steps p.tables e below ((W.setTop g).pushFrame (.throwNew cls (some text) none)) target) ∧
      Stand p l e R s m₀ args below meth c S locs (cells + 3) (slots + ((stringBytes (stringToUtf16 text)).size + 4 + 6)) ∧ S.heap[q]? = some ce ∧ s.vm.findClass cls = some ce.cls ∧ ce.vm = .none := by
  have howns : e.platform.frameOwnsMonitors = true := by rw [X.admits.platform]
  have hfin : e.platform.finalization = false := by rw [X.admits.platform]
  have hpl : e.platform.magicAccessors = ({} : Platform).magicAccessors := by rw [X.admits.platform]
  have a : ∀ x, x ∈ Bundle.messageArmAtoms cls names → x.holds args s none s [] = true := fun x hx => h x hx
  obtain ⟨T, Z0, L, -, Y⟩ := ThrowableC.of_atoms (args := args) howns hfin hpl (fun x hx => h x (by simp [Bundle.messageArmAtoms, hx]))
  obtain ⟨Z, M, LZ, LM, hnZ⟩ := Init0T.ofS_atoms (args := args) hpl L Y (fun x hx => h x (by simp [Bundle.messageArmAtoms, hx]))
  obtain ⟨P1, Ps, hlen, L1, hL, hP1m, hlink1, hlink⟩ := Bundle.chainS (args := args) hpl hnZ names cls hcls hnames (fun x hx => h x (by simp [Bundle.messageArmAtoms, hx]))
  obtain ⟨Zs, LZs, hn4, hfitv, hfitc⟩ := StringT.of_atoms (args := args) (fun x hx => h x (by simp [Bundle.messageArmAtoms, hx]))
  have hfound : s.vm.findClass cls = some P1.m.cls := findClass_of_methodNamed hP1m
  obtain ⟨c1, kX, hc1, hk, hord, -, -, hn6⟩ := Cond.instantiable_spec (a (.instantiable cls 6) (by simp [Bundle.messageArmAtoms]))
  cases Option.some.inj (hc1.symm.trans hfound)
  have hinit := Cond.initialized_spec hfound hk (a (.initialized cls) (by simp [Bundle.messageArmAtoms]))
  have hctor : kX.findMethod "<init>" "(Ljava/lang/String;)V" = some P1.m.idx := findMethod_of_methodNamed hP1m hk
  have hsel0 : selectMethod e.platform s.vm P1.m.cls T.fill0 = .method T.fill0 := by
    obtain ⟨c2, r2, m2, q1, q2, q3, q4, -⟩ := Cond.selects_spec (a (.selects cls Bundle.tFill0 Bundle.tFill0) (by simp [Bundle.messageArmAtoms]))
    cases Option.some.inj (q1.symm.trans hfound)
    cases Option.some.inj (q2.symm.trans (State.methodFound?_of_named Y.fill0 (by decide)))
    cases Option.some.inj (q3.symm.trans Y.fill0)
    rw [Launch.admits_selectMethod X.admits]; exact q4
  have hselF : selectMethod e.platform s.vm P1.m.cls T.fill = .method T.fill := by
    obtain ⟨c2, r2, m2, q1, q2, q3, q4, -⟩ := Cond.selects_spec (a (.selects cls Bundle.tFill Bundle.tFill) (by simp [Bundle.messageArmAtoms]))
    cases Option.some.inj (q1.symm.trans hfound)
    cases Option.some.inj (q2.symm.trans (State.methodFound?_of_named Y.fill (by decide)))
    cases Option.some.inj (q3.symm.trans Y.fill)
    rw [Launch.admits_selectMethod X.admits]; exact q4
  obtain ⟨cellS0, hcS0, hiss⟩ := Y.statics
  obtain ⟨u0, hu0⟩ := Cond.staticRefV Y.unassigned L.unassignedStatic L.statics hcS0 hiss (a (.isRef (.static Bundle.tN "UNASSIGNED_STACK" Bundle.steD)) (by simp [Bundle.messageArmAtoms]))
  obtain ⟨sen, hsen⟩ := Cond.staticRefV Y.sentinel L.sentinelStatic L.statics hcS0 hiss (a (.isRef (.static Bundle.tN "SUPPRESSED_SENTINEL" Bundle.listD)) (by simp [Bundle.messageArmAtoms]))
  obtain ⟨ci198, i198, fB, hk198, hg198, ha198, hsB, -, hnB, htB, hffB⟩ := Cond.ownField (t := .object "java/lang/Object") Y.found L.cls (by decide +kernel) (a (.fieldLink Bundle.tN 198 Bundle.tN "backtrace" "Ljava/lang/Object;") (by simp [Bundle.messageArmAtoms])) (a (.lays Bundle.tN Bundle.tN "backtrace" "Ljava/lang/Object;") (by simp [Bundle.messageArmAtoms])) e.platform hpl
  obtain ⟨cellS, hcS', heS, -, hkeep⟩ := X.same.2.2.2.2.2 T.aS cellS0 hcS0
  have hcellS : W.heap[T.aS]? = some cellS := hcS'
  have hout' : ∀ i, (⟨T.aS, i⟩ : Loc) ∉ locs := fun i hmem => by
    have := hlocs _ hmem cellS0 hcS0
    rw [hiss] at this; cases this
  have hknownS : cellS.vm ≠ .unknown := by
    rw [heS]; intro hu
    rw [show cellS0.vm = .unknown from hu] at hiss
    cases hiss
  have hvU : cellS.slots[T.fUnassigned.slot]? = some u0.v := by rw [hkeep _ (hout' _)]; exact hu0
  have hvSen : cellS.slots[T.fSentinel.slot]? = some sen.v := by rw [hkeep _ (hout' _)]; exact hsen
  obtain ⟨iM, hffM⟩ := Y.msg
  obtain ⟨tyC, dC, hdC, hdnC⟩ := Cond.laysAt hfound hk Y.cause (a (.lays cls Bundle.tN "cause" "Ljava/lang/Throwable;") (by simp [Bundle.messageArmAtoms]))
  obtain ⟨tyS, dS, hdS, hdnS⟩ := Cond.laysAt hfound hk Y.stack (a (.lays cls Bundle.tN "stackTrace" Bundle.steD) (by simp [Bundle.messageArmAtoms]))
  obtain ⟨tyP, dP, hdP, hdnP⟩ := Cond.laysAt hfound hk Y.supp (a (.lays cls Bundle.tN "suppressedExceptions" Bundle.listD) (by simp [Bundle.messageArmAtoms]))
  obtain ⟨tyM, dM, hdM, hdnM⟩ := Cond.laysAt hfound hk hffM (a (.lays cls Bundle.tN "detailMessage" "Ljava/lang/String;") (by simp [Bundle.messageArmAtoms]))
  obtain ⟨tyB, dB, hdB, hdnB⟩ := Cond.laysAt hfound hk hffB (a (.lays cls Bundle.tN "backtrace" "Ljava/lang/Object;") (by simp [Bundle.messageArmAtoms]))
  have bC := Cond.laysApart hdB hdC hdnB hdnC (by rw [hnB, Y.causeName]; decide)
  have bS := Cond.laysApart hdB hdS hdnB hdnS (by rw [hnB, Y.stackName]; decide)
  have bP := Cond.laysApart hdB hdP hdnB hdnP (by rw [hnB, Y.suppName]; decide)
  have hbk : ((preparedCellV T.toThrowableT (freshCell P1.m.cls kX) (W.heap.size + 2) u0 sen).withEntry W.cur).slots[fB.slot]? = some .null := by
    have := fresh_default (c := P1.m.cls) tyB
    rw [htB] at this
    simpa [preparedCellV, Cell.setSlot, Cell.withEntry, Array.getElem?_setIfInBounds, bC, bS, bP, bC.symm, bS.symm, bP.symm, defaultValue] using this
  have tkC := Takes.of_laid (v := .ref (W.heap.size + 2)) hk hord tyC (by rw [Y.causeType]; rfl)
  have tkS := Takes.of_laid (v := u0.v) hk hord tyS (by rw [Y.stackType]; exact fits_refV_array _ u0)
  have tkP := Takes.of_laid (v := sen.v) hk hord tyP (by rw [Y.suppType]; exact fits_refV_object _ sen)
  have tkM := Takes.of_laid (v := .ref (W.heap.size + 1)) hk hord tyM (by rw [Y.msgType]; rfl)
  have hskip : SkipFacts T e.platform s (fun u => u) u0 ((preparedCellV T.toThrowableT (freshCell P1.m.cls kX) (W.heap.size + 2) u0 sen).withEntry W.cur) := ⟨{ ci198 := ci198, i198 := i198, fBack := fB }, ⟨hk198, hg198, ha198, hsB⟩, hbk, fun _ _ => rfl⟩
  have h0 : At W g.method c below := by rw [hg]; exact X.here
  obtain ⟨hbeyond, hfreeW⟩ := X.vmMayThrow hsize (.throwNew cls (some text) none) (fun f hf => by cases hf) rfl hRlocals
  have hfr' : W.frames.length + Ps.length + 4 < (e.platform.stackLimits W.me).1 := by have := X.framesAbove hRframes; omega
  have hwd' : (stackUse (.java g :: W.frames.tail)).2 + 13 * Ps.length + 55 ≤ (e.platform.stackLimits W.me).2 := by have := X.stackAbove hsize (K := 13 * Ps.length + 55) (by omega); omega
  have hslots : W.slotsUsed + (stringBytes (stringToUtf16 text)).size + Zs.kS.instanceTypes.size + kX.instanceTypes.size ≤ e.platform.maxSlots := by
    have := X.slotsAbove hRslots
    rw [hn4, hn6]
    omega
  obtain ⟨vm', hW', st⟩ := Steps.vmThrowsMessageColdByV p (s₀ := s) (S := W) (g := g) h0 hexec T L Z LZ M LM X.warmed (t := W.cur) rfl Zs LZs P1 L1 Ps hL hlink1 hlink hsoe hoom hfound hk hinit hord hctor
    (Launch.admits_hotImplicitExceptions X.admits) hbeyond hfreeW htext hlimit hheap (X.cellsAbove hRcells) hslots (hfitv _) (hfitc _)
    (Nn := fun u => u) heapOnly_id (fun _ _ => rfl) (fun _ => rfl) (fun u x y => setCell_twice _ _ _ _) (fun _ => Nat.le_refl _) (cN := ((preparedCellV T.toThrowableT (freshCell P1.m.cls kX) (W.heap.size + 2) u0 sen).withEntry W.cur))
    hsel0 hcellS hknownS hvU tkS (fun _ hu => hu) (fun _ hu => hu) rfl rfl rfl (by simp [preparedCellV, Cell.setSlot, Cell.withEntry]) hskip (fun _ _ hA hW _ hroom _ hrest => L.nativeOff p htr hA hW hroom hrest) hselF hvSen tkC tkP tkM Y.objLocals rfl hfr' hwd'
  rw [plainBareV_eq T.toThrowableT (W.heap.size + 2) u0 sen (.ref (W.heap.size + 1)) W.cur rfl rfl] at st
  obtain ⟨-, -, w3, w4, -, -, -⟩ := withThrown_facts e.platform W Zs text P1.m.cls kX
  have X3 := ((X.pushed (bytesOf Zs.cB (stringToUtf16 text))).pushed (stringAt Zs.cS Zs.kS Zs.fv Zs.fc (stringToUtf16 text) W.heap.size)).pushed (freshCell P1.m.cls kX)
  rw [← withString_eq] at X3
  have X4 := X3.noted hW'
  have ha : (W.heap.size + 2) < ((withThrown W Zs text P1.m.cls kX).setVm vm').heap.size := by show _ < (withThrown W Zs text P1.m.cls kX).heap.size; rw [w3]; omega
  have hcell : ((withThrown W Zs text P1.m.cls kX).setVm vm').heap[(W.heap.size + 2)]? = some (freshCell P1.m.cls kX) := w4
  have X5 := ((((X4.stored hcell T.fCause.slot (.ref (W.heap.size + 2))).storedAgain ha T.fStack.slot u0.v).storedAgain ha T.fSupp.slot sen.v).storedAgain ha T.fStack.slot u0.v).storedAgain ha T.fMsg.slot (.ref (W.heap.size + 1))
  obtain ⟨g₁, hfrM⟩ := X5.frames_eq
  have hU : ((((withThrown W Zs text P1.m.cls kX).setVm vm').setCell (W.heap.size + 2) (plainBareV T.toThrowableT (freshCell P1.m.cls kX) (W.heap.size + 2) u0 sen (.ref (W.heap.size + 1)))).setTop g).pushFrame (.throwing (W.heap.size + 2)) = (((withThrown W Zs text P1.m.cls kX).setVm vm').setCell (W.heap.size + 2) (plainBareV T.toThrowableT (freshCell P1.m.cls kX) (W.heap.size + 2) u0 sen (.ref (W.heap.size + 1)))).setFrames (.throwing (W.heap.size + 2) :: .java g :: below) := by
    rw [State.pushFrame, State.frames_setTop _ hfrM, State.setTop_of_frames _ hfrM, State.setFrames_setFrames]
  have b1 : (bytesOf Zs.cB (stringToUtf16 text)).slots.size = (stringBytes (stringToUtf16 text)).size := by
    rw [(Cell.writeAll_facts _ _).2.2]; simp [bytes0]
  have b2 : (stringAt Zs.cS Zs.kS Zs.fv Zs.fc (stringToUtf16 text) W.heap.size).slots.size = 4 := by simp [string0, Cell.setSlot, hn4]
  have b3 : (freshCell P1.m.cls kX).slots.size = 6 := by simp [hn6]
  rw [b1, b2, b3] at X5
  have e9 : slots + (stringBytes (stringToUtf16 text)).size + 4 + 6 = slots + ((stringBytes (stringToUtf16 text)).size + 4 + 6) := by omega
  rw [e9] at X5
  simp only [List.append_assoc, List.cons_append, List.nil_append] at X5
  refine ⟨((withThrown W Zs text P1.m.cls kX).setVm vm').setCell (W.heap.size + 2) (plainBareV T.toThrowableT (freshCell P1.m.cls kX) (W.heap.size + 2) u0 sen (.ref (W.heap.size + 1))), W.heap.size + 2, _, fun target ht => st _ (by rw [X.tail, ← hU]; exact ht),
    X5.forget (fun y hy => ?_), heapAt_setCell_self _ ha, hfound, rfl⟩
  simp only [List.mem_cons, List.not_mem_nil, or_false] at hy
  have hge : s.heap.size ≤ W.heap.size := X.same.2.1
  rcases hy with rfl | rfl | rfl | rfl | rfl <;> exact Nat.le_trans hge (Nat.le_add_right _ 2)
set_option maxHeartbeats 1000000 in
/-- the machine throws NullPointerException, no traces kept: from its note over the frame g to 'throwing' over the same frame (follows the proof of Stand.vmThrowsNpe, Shelf42/KT2.lean; throwsNpeColdBareVAt, Shelf42/NT91.lean, called) -/
theorem vx_npeAt {p : Program} {l : Launch} {e : Env} {R : Room} {s : State} {m₀ : MethodId} {args : Array Value} {below : List Frame} {meth : Method} {c : Code} {W : State} {locs : List Loc} {cells slots : Nat}
    (X : Stand p l e R s m₀ args below meth c W locs cells slots) (hexec : p.tables.exec = Jvm.exec) (htr : e.platform.stackTraces = false) {n : Nat}
    (h : ∀ a ∈ Bundle.npeArmAtoms n, a.before args s = true)
    (hlocs : ∀ x ∈ locs, ∀ cell, s.heap[x.base]? = some cell → cell.vm.isStatics = false)
    {g : JFrame} (hg : g.method = m₀) (hsize : g.locals.size = c.maxLocals)
    (hRframes : 7 < R.frames) (hRlocals : 2 * g.monitorRoom + (g.stack.map fun v => v.category).sum + 10240 ≤ R.locals)
    (hRcells : cells + 1 ≤ R.cells) (hRslots : slots + n ≤ R.slots) (hlocks : meth.locks = false) :
    ∃ (S : State) (q : Addr) (ce : Cell), (∀ target, Steps p.tables e below ((S.setTop g).pushFrame (.throwing q)) target → Steps p.tables e below ((W.setTop g).pushFrame (.throwNew "java/lang/NullPointerException" none none)) target) ∧
      Stand p l e R s m₀ args below meth c S locs (cells + 1) (slots + n) ∧ S.heap[q]? = some ce ∧ s.vm.findClass "java/lang/NullPointerException" = some ce.cls ∧ ce.vm = .none := by
  have howns : e.platform.frameOwnsMonitors = true := by rw [X.admits.platform]
  have hfin : e.platform.finalization = false := by rw [X.admits.platform]
  have hpl : e.platform.magicAccessors = ({} : Platform).magicAccessors := by rw [X.admits.platform]
  have hpl2 : e.platform.arrayCloneIsPublic = true := by rw [X.admits.platform]
  have a' : ∀ x, x ∈ Bundle.npeArmAtoms n → x.holds args s none s [] = true := fun x hx => h x hx
  obtain ⟨T, Z, L, LZ, Y⟩ := ThrowableC.of_atoms (args := args) howns hfin hpl (fun x hx => h x (by simp [Bundle.npeArmAtoms, hx]))
  obtain ⟨N, LN, hcN, hnNF, hordN, hffS⟩ := NpeC.of_atoms (args := args) hpl hpl2 L Y (fun x hx => h x (by simp [Bundle.npeArmAtoms, hx]))
  obtain ⟨P1, L1, hP1m, hP1s⟩ := PassC.of_atoms (args := args) (s := s) hpl (X := Bundle.nN) (Y := Bundle.rN) (by decide) (by decide) LibCode.NullPointerException.Init0.at_0 LibCode.NullPointerException.Init0.at_1 LibCode.NullPointerException.Init0.at_4 (fun x hx => h x (by simp [Bundle.npeArmAtoms, hx]))
  obtain ⟨PR, LR, hPRm, hPRs⟩ := PassC.of_atoms (args := args) (s := s) hpl (X := Bundle.rN) (Y := Bundle.eN) (by decide) (by decide) LibCode.RuntimeException.Init0.at_0 LibCode.RuntimeException.Init0.at_1 LibCode.RuntimeException.Init0.at_4 (fun x hx => h x (by simp [Bundle.npeArmAtoms, hx]))
  obtain ⟨PE, LEx, hPEm, hPEs⟩ := PassC.of_atoms (args := args) (s := s) hpl (X := Bundle.eN) (Y := Bundle.tN) (by decide) (by decide) LibCode.Exception.Init0.at_0 LibCode.Exception.Init0.at_1 LibCode.Exception.Init0.at_4 (fun x hx => h x (by simp [Bundle.npeArmAtoms, hx]))
  have hfound : s.vm.findClass Bundle.nN = some P1.m.cls := findClass_of_methodNamed hP1m
  have ecls : N.cN = P1.m.cls := Option.some.inj (hcN.symm.trans hfound)
  have hk : s.vm.classes[P1.m.cls]? = some N.kN := by rw [← ecls]; exact LN.cls
  have hinit := Cond.initialized_spec hfound hk (a' (.initialized Bundle.nN) (by simp [Bundle.npeArmAtoms]))
  have hctor : N.kN.findMethod "<init>" "()V" = some P1.m.idx := findMethod_of_methodNamed hP1m hk
  obtain ⟨c1, k1, hc1, hk1, -, -, -, hn⟩ := Cond.instantiable_spec (a' (.instantiable Bundle.nN n) (by simp [Bundle.npeArmAtoms]))
  cases Option.some.inj (hc1.symm.trans hfound)
  cases Option.some.inj (hk1.symm.trans hk)
  have hfsz : (freshCell P1.m.cls N.kN).slots.size = n := by simp [hn]
  have hlink1 : P1.sup = PR.m := Option.some.inj (hP1s.symm.trans hPRm)
  have hlinkR : PR.sup = PE.m := Option.some.inj (hPRs.symm.trans hPEm)
  have hlinkE : PE.sup = Z.m T.toThrowableT := Option.some.inj (hPEs.symm.trans Y.init0)
  have hLs : ∀ P, P ∈ [PR, PE] → P.Links0 e.platform s := fun P hP => by
    simp only [List.mem_cons, List.not_mem_nil, or_false] at hP
    rcases hP with rfl | rfl
    · exact LR
    · exact LEx
  have hsel0 : selectMethod e.platform s.vm P1.m.cls T.fill0 = .method T.fill0 := by
    obtain ⟨c2, r2, m2, q1, q2, q3, q4, -⟩ := Cond.selects_spec (a' (.selects Bundle.nN Bundle.tFill0 Bundle.tFill0) (by simp [Bundle.npeArmAtoms]))
    cases Option.some.inj (q1.symm.trans hfound)
    cases Option.some.inj (q2.symm.trans (State.methodFound?_of_named Y.fill0 (by decide)))
    cases Option.some.inj (q3.symm.trans Y.fill0)
    rw [Launch.admits_selectMethod X.admits]; exact q4
  have hselF : selectMethod e.platform s.vm P1.m.cls T.fill = .method N.fill := by
    obtain ⟨c2, r2, m2, q1, q2, q3, q4, -⟩ := Cond.selects_spec (a' (.selects Bundle.nN Bundle.tFill Bundle.nFill) (by simp [Bundle.npeArmAtoms]))
    cases Option.some.inj (q1.symm.trans hfound)
    cases Option.some.inj (q2.symm.trans (State.methodFound?_of_named Y.fill (by decide)))
    cases Option.some.inj (q3.symm.trans hnNF)
    rw [Launch.admits_selectMethod X.admits]; exact q4
  obtain ⟨cellS0, hcS0, hiss⟩ := Y.statics
  obtain ⟨u0, hu0⟩ := Cond.staticRefV Y.unassigned L.unassignedStatic L.statics hcS0 hiss (a' (.isRef (.static Bundle.tN "UNASSIGNED_STACK" Bundle.steD)) (by simp [Bundle.npeArmAtoms]))
  obtain ⟨sen, hsen⟩ := Cond.staticRefV Y.sentinel L.sentinelStatic L.statics hcS0 hiss (a' (.isRef (.static Bundle.tN "SUPPRESSED_SENTINEL" Bundle.listD)) (by simp [Bundle.npeArmAtoms]))
  obtain ⟨ci198, i198, fB, hk198, hg198, ha198, hsB, -, hnB, htB, hffB⟩ := Cond.ownField (t := .object "java/lang/Object") Y.found L.cls (by decide +kernel) (a' (.fieldLink Bundle.tN 198 Bundle.tN "backtrace" Bundle.objD) (by simp [Bundle.npeArmAtoms])) (a' (.lays Bundle.tN Bundle.tN "backtrace" Bundle.objD) (by simp [Bundle.npeArmAtoms])) e.platform hpl
  obtain ⟨cellS, hcS', heS, -, hkeep⟩ := X.same.2.2.2.2.2 T.aS cellS0 hcS0
  have hcellS : W.heap[T.aS]? = some cellS := hcS'
  have hout' : ∀ i, (⟨T.aS, i⟩ : Loc) ∉ locs := fun i hmem => by
    have := hlocs _ hmem cellS0 hcS0
    rw [hiss] at this; cases this
  have hknownS : cellS.vm ≠ .unknown := by
    rw [heS]; intro hu
    rw [show cellS0.vm = .unknown from hu] at hiss
    cases hiss
  have hvU : cellS.slots[T.fUnassigned.slot]? = some u0.v := by rw [hkeep _ (hout' _)]; exact hu0
  have hvSen : cellS.slots[T.fSentinel.slot]? = some sen.v := by rw [hkeep _ (hout' _)]; exact hsen
  obtain ⟨tyC, dC, hdC, hdnC⟩ := Cond.laysAt hfound hk Y.cause (a' (.lays Bundle.nN Bundle.tN "cause" "Ljava/lang/Throwable;") (by simp [Bundle.npeArmAtoms]))
  obtain ⟨tyS, dS, hdS, hdnS⟩ := Cond.laysAt hfound hk Y.stack (a' (.lays Bundle.nN Bundle.tN "stackTrace" Bundle.steD) (by simp [Bundle.npeArmAtoms]))
  obtain ⟨tyP, dP, hdP, hdnP⟩ := Cond.laysAt hfound hk Y.supp (a' (.lays Bundle.nN Bundle.tN "suppressedExceptions" Bundle.listD) (by simp [Bundle.npeArmAtoms]))
  obtain ⟨tyX, dX, hdX, hdnX⟩ := Cond.laysAt hfound hk hffS (a' (.lays Bundle.nN Bundle.nN "extendedMessageState" "I") (by simp [Bundle.npeArmAtoms, Bundle.npeAtoms]))
  obtain ⟨hnX, htX⟩ := State.fieldFound?_type hffS (t := .int) (by decide +kernel)
  have xC := Cond.laysApart hdC hdX hdnC hdnX (by rw [hnX, Y.causeName]; decide)
  have xS := Cond.laysApart hdS hdX hdnS hdnX (by rw [hnX, Y.stackName]; decide)
  have xP := Cond.laysApart hdP hdX hdnP hdnX (by rw [hnX, Y.suppName]; decide)
  have hv0 : (freshCell P1.m.cls N.kN).slots[N.fState.slot]? = some (.int 0) := by
    have := fresh_default (c := P1.m.cls) tyX
    rw [htX] at this; exact this
  obtain ⟨tyB, dB, hdB, hdnB⟩ := Cond.laysAt hfound hk hffB (a' (.lays Bundle.nN Bundle.tN "backtrace" Bundle.objD) (by simp [Bundle.npeArmAtoms]))
  have bC := Cond.laysApart hdB hdC hdnB hdnC (by rw [hnB, Y.causeName]; decide)
  have bS := Cond.laysApart hdB hdS hdnB hdnS (by rw [hnB, Y.stackName]; decide)
  have bP := Cond.laysApart hdB hdP hdnB hdnP (by rw [hnB, Y.suppName]; decide)
  have bX := Cond.laysApart hdB hdX hdnB hdnX (by rw [hnB, hnX]; decide)
  have hbk : ((npeCell N.toNpeT (preparedCellV T.toThrowableT (freshCell P1.m.cls N.kN) W.heap.size u0 sen) W.cur).withEntry W.cur).slots[fB.slot]? = some .null := by
    have := fresh_default (c := P1.m.cls) tyB
    rw [htB] at this
    simpa [npeCell, preparedCellV, Cell.setSlot, Cell.withEntry, Array.getElem?_setIfInBounds, bC, bS, bP, bX, bC.symm, bS.symm, bP.symm, bX.symm, defaultValue] using this
  have tkC := Takes.of_laid (v := .ref W.heap.size) hk hordN tyC (by rw [Y.causeType]; rfl)
  have tkS := Takes.of_laid (v := u0.v) hk hordN tyS (by rw [Y.stackType]; exact fits_refV_array _ u0)
  have tkP := Takes.of_laid (v := sen.v) hk hordN tyP (by rw [Y.suppType]; exact fits_refV_object _ sen)
  have tkX := Takes.of_laid (v := .int 1) hk hordN tyX (by rw [htX]; rfl)
  have hskip : SkipFacts T e.platform s (fun u => u) u0 ((npeCell N.toNpeT (preparedCellV T.toThrowableT (freshCell P1.m.cls N.kN) W.heap.size u0 sen) W.cur).withEntry W.cur) := ⟨{ ci198 := ci198, i198 := i198, fBack := fB }, ⟨hk198, hg198, ha198, hsB⟩, hbk, fun _ _ => rfl⟩
  obtain ⟨vm', X3, st, -⟩ := X.throwsNpeColdBareVAt hexec hg hsize T L Z LZ N LN P1 L1 [PR, PE] hLs hlink1 ⟨hlinkR, hlinkE, trivial⟩ hfound hk hinit hordN hctor hsel0 hselF hcellS hknownS hvU hvSen
    hv0 xC xS xP tkC tkS tkP tkX Y.objLocals hskip (fun _ _ hA hW _ hroom _ hrest => L.nativeOff p htr hA hW hroom hrest) (by simpa using hRframes) hRlocals (by simp) hRcells (by rw [hn]; exact hRslots)
  have hlt : W.heap.size < ((W.pushCell (freshCell P1.m.cls N.kN)).setVm vm').heap.size := by
    show W.heap.size < (W.pushCell (freshCell P1.m.cls N.kN)).heap.size
    rw [State.heap_size_pushCell]; omega
  rw [hfsz] at X3
  obtain ⟨g₁, hfrM⟩ := X3.frames_eq
  have hU : ((((W.pushCell (freshCell P1.m.cls N.kN)).setVm vm').setCell W.heap.size (npeBareV T.toThrowableT N.toNpeT (freshCell P1.m.cls N.kN) W.heap.size u0 sen)).setTop g).pushFrame (.throwing W.heap.size) = (((W.pushCell (freshCell P1.m.cls N.kN)).setVm vm').setCell W.heap.size (npeBareV T.toThrowableT N.toNpeT (freshCell P1.m.cls N.kN) W.heap.size u0 sen)).setFrames (.throwing W.heap.size :: .java g :: below) := by
    rw [State.pushFrame, State.frames_setTop _ hfrM, State.setTop_of_frames _ hfrM, State.setFrames_setFrames]
  refine ⟨_, W.heap.size, _, fun target ht => st.trans (by rw [← hU]; exact ht), X3.forget (fun y hy => ?_), heapAt_setCell_self _ hlt, hfound, rfl⟩
  simp only [List.mem_cons, List.not_mem_nil, or_false] at hy
  have hge : s.heap.size ≤ W.heap.size := X.same.2.1
  rcases hy with rfl | rfl | rfl | rfl | rfl <;> exact hge
/-- the words of a machine's NullPointerException, but the four that speak of the heap -/
def vx_atN (n : Nat) : List Cond := (Bundle.npeArmAtoms n).filter vx_no
/-- the words of a machine's throw with a message, but the four that speak of the heap -/
def vx_atM (X : String) (names : List String) : List Cond := (Bundle.messageArmAtoms X names).filter vx_no
section
variable {p : Program} {l : Launch} {e : Env} {R : Room} {s : State} {m : MethodId} {args : Array Value} {below : List Frame} {meth : Method} {c : Code} {H : Heap} {locs : List Loc} {cells slots : Nat}
/-- a frame seen from a rebased start, seen from the first start again -/
theorem vx_back9 {T S : State} {R' : Room} {k n : Nat} (X : Stand p l e R s m args below meth c T locs cells slots) (Y : Stand p l e R' ((T.setVm s.vm).setFrames (.invoking m args :: below)) m args below meth c T [] 0 0) (Z : Stand p l e R' ((T.setVm s.vm).setFrames (.invoking m args :: below)) m args below meth c S [] k n) :
    Stand p l e R s m args below meth c S locs (cells + k) (slots + n) := by
  have hW0 : s.WarmedH ((T.setVm s.vm).setFrames (.invoking m args :: below)).vm := State.WarmedH.refl s
  refine { admits := X.admits, cas := X.cas, clock := X.clock, frames := X.frames, room := X.room, hears := X.hears, method := X.method, code := X.code, here := Z.here, tail := Z.tail, warmed := State.WarmedH.trans hW0 Z.warmed, limits := Z.limits.trans (Y.limits.symm.trans X.limits), bytes := Z.bytes.trans (Y.bytes.symm.trans X.bytes), same := ?_ }
  obtain ⟨e1, e2⟩ := Z.same
  rw [State.setFrames_setFrames] at e1
  have h2 : (T.setVm s.vm).sameButNew (S.setVm s.vm) [] k n := ⟨e1, e2⟩
  have h3 := X.same.trans h2
  rw [List.append_nil] at h3
  exact h3
/-- from the machine's note that E is thrown here with this text -/
def vx_Note (p : Program) (l : Launch) (e : Env) (R : Room) (s : State) (m : MethodId) (args : Array Value) (below : List Frame) (meth : Method) (c : Code) (H : Heap) (locs : List Loc) (cells slots : Nat) (Q : State → Prop) (g : JFrame) (E text : String) : Prop :=
  ∀ T : State, T.heap = H → Stand p l e R s m args below meth c T locs cells slots → ∃ t, Steps p.tables e below ((T.setTop g).pushFrame (.throwNew E (some text) none)) t ∧ Q t
theorem vx_vm {pc : Nat} {ls : Array Slot} {rest : List Value} {Q : State → Prop} (hexec : p.tables.exec = Jvm.exec) (hl : l.stackTraces = false) {cls text : String} {names : List String} {nb : Nat} {A : Nat → Prop}
    (hcls : Bundle.fit cls = true) (hnames : ∀ n ∈ names, Bundle.fit n = true) (hsoe : (cls == "java/lang/StackOverflowError") = false) (hoom : (cls == "java/lang/OutOfMemoryError") = false)
    (hat : ∀ w ∈ vx_atM cls names, w.before args s = true) (hgood : ∀ w ∈ vx_atM cls names, vx_ot w = true)
    (hU : vx_Zq Bundle.tN "UNASSIGNED_STACK" Bundle.steD A s s.heap) (hN : vx_Zq Bundle.tN "SUPPRESSED_SENTINEL" Bundle.listD A s s.heap) (hS : va_S A s.heap H locs) (hsize : ls.size = c.maxLocals)
    (htext : (text == notModelled) = false) (hnb : (stringBytes (stringToUtf16 text)).size ≤ nb) (hnb1 : nb ≤ 1000)
    (hRframes : names.length + 4 < R.frames) (hRlocals : (rest.map fun v => v.category).sum + 10240 ≤ R.locals) (hshort : 13 * names.length + 55 ≤ 10240) (hRcells : cells + 3 ≤ R.cells) (hRslots : slots + (nb + 10) ≤ R.slots) (hlocks : meth.locks = false)
    (k : ∀ (H1 : Heap) (q9 : Addr) (ce : Cell), H.size ≤ H1.size → (∀ q : Nat, q < H.size → H1[q]? = H[q]?) → va_S A s.heap H1 locs → H1[q9]? = some ce → ce.vm = .none → s.vm.findClass cls = some ce.cls → vx_W p l e R s m args below meth c H1 locs (cells + 3) (slots + (nb + 10)) Q (F0 m pc ls rest) q9) :
    vx_Note p l e R s m args below meth c H locs cells slots Q (F0 m pc ls rest) cls text := by
  intro T hT X
  have htr : e.platform.stackTraces = false := (show e.platform.stackTraces = l.stackTraces by rw [X.admits.platform]).trans hl
  have Y := vx_rebase X (R' := { frames := R.frames, locals := R.locals, cells := 3, slots := nb + 10 }) (Nat.le_refl _) (Nat.le_refl _) hRcells hRslots
  have hhp : ((T.setVm s.vm).setFrames (.invoking m args :: below)).heap = H := hT
  have hW0 : s.WarmedH ((T.setVm s.vm).setFrames (.invoking m args :: below)).vm := State.WarmedH.refl s
  have hat' : ∀ w ∈ vx_atM cls names, w.before args ((T.setVm s.vm).setFrames (.invoking m args :: below)) = true := fun w hw => vx_ot_at hW0 rfl (hgood w hw) (hat w hw)
  have hU' : vx_Zq Bundle.tN "UNASSIGNED_STACK" Bundle.steD A ((T.setVm s.vm).setFrames (.invoking m args :: below)) ((T.setVm s.vm).setFrames (.invoking m args :: below)).heap := by rw [hhp]; exact vx_Zq.moved hW0.alike (hU.kept hS.2.1)
  have hN' : vx_Zq Bundle.tN "SUPPRESSED_SENTINEL" Bundle.listD A ((T.setVm s.vm).setFrames (.invoking m args :: below)) ((T.setVm s.vm).setFrames (.invoking m args :: below)).heap := by rw [hhp]; exact vx_Zq.moved hW0.alike (hN.kept hS.2.1)
  obtain ⟨S, q, ce, st, Z, hce, hcl', hv⟩ := vx_vmAt Y hexec htr (cls := cls) (names := names) (text := text) hcls hnames hsoe hoom (vx_own hat' (vx_isRefq hU'.1) (vx_isRefq hN'.1) hU'.2.word hN'.2.word) (fun x hx => nomatch hx) htext
    (by rw [Launch.admits_arrayLengthLimit X.admits]; omega) (by rw [Launch.admits_maxHeapBytes X.admits]; simp only [componentBytes]; omega)
    (g := F0 m pc ls rest) rfl hsize hRframes (by show 2 * 0 + (rest.map fun v => v.category).sum + 10240 ≤ R.locals; omega) hshort (by show 0 + 3 ≤ 3; omega) (by show 0 + (_ + 4 + 6) ≤ nb + 10; omega) hlocks
  obtain ⟨f1, f2⟩ := vx_frame Z.same
  have f1' : H.size ≤ S.heap.size := by rw [← hT]; exact f1
  have f2' : ∀ q : Nat, q < H.size → S.heap[q]? = H[q]? := fun q hq => by
    rw [← hT]
    exact f2 q (by rw [← hT] at hq; exact hq) (fun z hz => nomatch hz)
  have X5 := vx_back9 X Y Z
  have X6 : Stand p l e R s m args below meth c S locs (cells + 3) (slots + (nb + 10)) := { X5 with same := X5.same.mono (by omega) (by omega) }
  obtain ⟨t, a1, b1⟩ := k S.heap q ce f1' f2' ⟨Nat.le_trans hS.1 f1', fun q h1 h2 => (f2' q (Nat.lt_of_lt_of_le h1 hS.1)).trans (hS.2.1 q h1 h2), hS.2.2⟩ hce hv hcl' S rfl X6
  exact ⟨t, st t a1, b1⟩
/-- from the machine's note that NullPointerException is thrown here -/
def vx_NoteN (p : Program) (l : Launch) (e : Env) (R : Room) (s : State) (m : MethodId) (args : Array Value) (below : List Frame) (meth : Method) (c : Code) (H : Heap) (locs : List Loc) (cells slots : Nat) (Q : State → Prop) (g : JFrame) : Prop :=
  ∀ T : State, T.heap = H → Stand p l e R s m args below meth c T locs cells slots → ∃ t, Steps p.tables e below ((T.setTop g).pushFrame (.throwNew "java/lang/NullPointerException" none none)) t ∧ Q t
theorem vx_npe {pc : Nat} {ls : Array Slot} {rest : List Value} {Q : State → Prop} (hexec : p.tables.exec = Jvm.exec) (hl : l.stackTraces = false) {nb : Nat} {A : Nat → Prop}
    (hat : ∀ w ∈ vx_atN nb, w.before args s = true) (hgood : ∀ w ∈ vx_atN nb, vx_ot w = true)
    (hU : vx_Zq Bundle.tN "UNASSIGNED_STACK" Bundle.steD A s s.heap) (hN : vx_Zq Bundle.tN "SUPPRESSED_SENTINEL" Bundle.listD A s s.heap) (hS : va_S A s.heap H locs) (hsize : ls.size = c.maxLocals)
    (hRframes : 7 < R.frames) (hRlocals : (rest.map fun v => v.category).sum + 10240 ≤ R.locals) (hRcells : cells + 1 ≤ R.cells) (hRslots : slots + nb ≤ R.slots) (hlocks : meth.locks = false)
    (k : ∀ (H1 : Heap) (q9 : Addr) (ce : Cell), H.size ≤ H1.size → (∀ q : Nat, q < H.size → H1[q]? = H[q]?) → va_S A s.heap H1 locs → H1[q9]? = some ce → ce.vm = .none → s.vm.findClass "java/lang/NullPointerException" = some ce.cls → vx_W p l e R s m args below meth c H1 locs (cells + 1) (slots + nb) Q (F0 m pc ls rest) q9) :
    vx_NoteN p l e R s m args below meth c H locs cells slots Q (F0 m pc ls rest) := by
  intro T hT X
  have htr : e.platform.stackTraces = false := (show e.platform.stackTraces = l.stackTraces by rw [X.admits.platform]).trans hl
  have Y := vx_rebase X (R' := { frames := R.frames, locals := R.locals, cells := 1, slots := nb }) (Nat.le_refl _) (Nat.le_refl _) hRcells hRslots
  have hhp : ((T.setVm s.vm).setFrames (.invoking m args :: below)).heap = H := hT
  have hW0 : s.WarmedH ((T.setVm s.vm).setFrames (.invoking m args :: below)).vm := State.WarmedH.refl s
  have hat' : ∀ w ∈ vx_atN nb, w.before args ((T.setVm s.vm).setFrames (.invoking m args :: below)) = true := fun w hw => vx_ot_at hW0 rfl (hgood w hw) (hat w hw)
  have hU' : vx_Zq Bundle.tN "UNASSIGNED_STACK" Bundle.steD A ((T.setVm s.vm).setFrames (.invoking m args :: below)) ((T.setVm s.vm).setFrames (.invoking m args :: below)).heap := by rw [hhp]; exact vx_Zq.moved hW0.alike (hU.kept hS.2.1)
  have hN' : vx_Zq Bundle.tN "SUPPRESSED_SENTINEL" Bundle.listD A ((T.setVm s.vm).setFrames (.invoking m args :: below)) ((T.setVm s.vm).setFrames (.invoking m args :: below)).heap := by rw [hhp]; exact vx_Zq.moved hW0.alike (hN.kept hS.2.1)
  obtain ⟨S, q, ce, st, Z, hce, hcl', hv⟩ := vx_npeAt Y hexec htr (n := nb) (vx_own hat' (vx_isRefq hU'.1) (vx_isRefq hN'.1) hU'.2.word hN'.2.word) (fun x hx => nomatch hx)
    (g := F0 m pc ls rest) rfl hsize hRframes (by show 2 * 0 + (rest.map fun v => v.category).sum + 10240 ≤ R.locals; omega) (by show 0 + 1 ≤ 1; omega) (by show 0 + nb ≤ nb; omega) hlocks
  obtain ⟨f1, f2⟩ := vx_frame Z.same
  have f1' : H.size ≤ S.heap.size := by rw [← hT]; exact f1
  have f2' : ∀ q : Nat, q < H.size → S.heap[q]? = H[q]? := fun q hq => by
    rw [← hT]
    exact f2 q (by rw [← hT] at hq; exact hq) (fun z hz => nomatch hz)
  have X5 := vx_back9 X Y Z
  have X6 : Stand p l e R s m args below meth c S locs (cells + 1) (slots + nb) := { X5 with same := X5.same.mono (by omega) (by omega) }
  obtain ⟨t, a1, b1⟩ := k S.heap q ce f1' f2' ⟨Nat.le_trans hS.1 f1', fun q h1 h2 => (f2' q (Nat.lt_of_lt_of_le h1 hS.1)).trans (hS.2.1 q h1 h2), hS.2.2⟩ hce hv hcl' S rfl X6
  exact ⟨t, st t a1, b1⟩
variable {Q : State → Prop} {cc : ByteArray} {pc : Nat} {ls : Array Slot} {rest : List Value}
theorem vx_idivZ (hexec : p.tables.exec = Jvm.exec) (hb : c.code = cc) {a b : Int32} (h0 : b = 0) (d : decode cc pc = .ok (.idiv, 1)) (k : vx_Note p l e R s m args below meth c H locs cells slots Q (F0 m pc ls rest) "java/lang/ArithmeticException" "/ by zero") :
    W p l e R s m args below meth c H locs cells slots Q (F0 m pc ls (.int b :: .int a :: rest)) := by
  intro T hT X
  obtain ⟨t, st, q⟩ := k T hT X
  exact ⟨t, X.idivZero hexec (g := F0 m pc ls (.int b :: .int a :: rest)) rfl (a := a) (rest := rest) (by rw [h0]) (by rw [hb]; exact d) t st, q⟩
theorem vx_iremZ (hexec : p.tables.exec = Jvm.exec) (hb : c.code = cc) {a b : Int32} (h0 : b = 0) (d : decode cc pc = .ok (.irem, 1)) (k : vx_Note p l e R s m args below meth c H locs cells slots Q (F0 m pc ls rest) "java/lang/ArithmeticException" "/ by zero") :
    W p l e R s m args below meth c H locs cells slots Q (F0 m pc ls (.int b :: .int a :: rest)) := by
  intro T hT X
  obtain ⟨t, st, q⟩ := k T hT X
  exact ⟨t, X.iremZero hexec (g := F0 m pc ls (.int b :: .int a :: rest)) rfl (a := a) (rest := rest) (by rw [h0]) (by rw [hb]; exact d) t st, q⟩
theorem vx_ldivZ (hexec : p.tables.exec = Jvm.exec) (hb : c.code = cc) {a b : Int64} (h0 : b = 0) (d : decode cc pc = .ok (.ldiv, 1)) (k : vx_Note p l e R s m args below meth c H locs cells slots Q (F0 m pc ls rest) "java/lang/ArithmeticException" "/ by zero") :
    W p l e R s m args below meth c H locs cells slots Q (F0 m pc ls (.long b :: .long a :: rest)) := by
  intro T hT X
  obtain ⟨t, st, q⟩ := k T hT X
  exact ⟨t, X.ldivZero hexec (g := F0 m pc ls (.long b :: .long a :: rest)) rfl (a := a) (rest := rest) (by rw [h0]) (by rw [hb]; exact d) t st, q⟩
theorem vx_lremZ (hexec : p.tables.exec = Jvm.exec) (hb : c.code = cc) {a b : Int64} (h0 : b = 0) (d : decode cc pc = .ok (.lrem, 1)) (k : vx_Note p l e R s m args below meth c H locs cells slots Q (F0 m pc ls rest) "java/lang/ArithmeticException" "/ by zero") :
    W p l e R s m args below meth c H locs cells slots Q (F0 m pc ls (.long b :: .long a :: rest)) := by
  intro T hT X
  obtain ⟨t, st, q⟩ := k T hT X
  exact ⟨t, X.lremZero hexec (g := F0 m pc ls (.long b :: .long a :: rest)) rfl (a := a) (rest := rest) (by rw [h0]) (by rw [hb]; exact d) t st, q⟩
theorem vx_ialdZ {D : va_G} {cl : List vw_C} {ws : va_W} {tys : List (ClassId × FieldType)} {a : Nat} (hexec : p.tables.exec = Jvm.exec) (hb : c.code = cc) (hK : va_K D cl tys s) (hP : va_P D cl ws H) (q0 t0 : Nat) {cA : ClassId} {n : Nat} {f : Nat → Int32} (ha : ws[q0]? = some (a, .inl (cA, n, .inl f))) (ht : tys[t0]? = some (cA, .int)) {i : Int32} (hout : ¬ vp_in i n) (hdg : decode cc pc = .ok (.iaload, 1))
    (k : ∀ tx : String, tx = (toString "Index " ++ toString i ++ toString " out of bounds for length " ++ toString n : String) → vx_Note p l e R s m args below meth c H locs cells slots Q (F0 m pc ls rest) "java/lang/ArrayIndexOutOfBoundsException" tx) : W p l e R s m args below meth c H locs cells slots Q (F0 m pc ls (.int i :: .ref a :: rest)) := by
  intro T hT X
  obtain ⟨t, st, q⟩ := k _ rfl T hT X
  refine ⟨t, ?_, q⟩
  have h1 := X.ialoadOut hexec (by rw [hT]; exact hP q0 _ ha) ((hK.2 t0 _ ht).1 n (fun j => .int (f j))) (j := i) (by show (i < 0 ∨ (arrV _ _ _).slots.size ≤ _); rw [arrV_size]; exact Classical.byContradiction hout) (g := F0 m pc ls (.int i :: .ref a :: rest)) rfl (rest := rest) rfl (by rw [hb]; exact hdg) t
  simp only [arrV_size] at h1
  exact h1 st
theorem vx_iastZ {D : va_G} {cl : List vw_C} {ws : va_W} {tys : List (ClassId × FieldType)} {a : Nat} (hexec : p.tables.exec = Jvm.exec) (hb : c.code = cc) (hK : va_K D cl tys s) (hP : va_P D cl ws H) (q0 t0 : Nat) {cA : ClassId} {n : Nat} {f : Nat → Int32} (ha : ws[q0]? = some (a, .inl (cA, n, .inl f))) (ht : tys[t0]? = some (cA, .int)) {i : Int32} {x : Int32} (hout : ¬ vp_in i n) (hdg : decode cc pc = .ok (.iastore, 1))
    (k : ∀ tx : String, tx = (toString "Index " ++ toString i ++ toString " out of bounds for length " ++ toString n : String) → vx_Note p l e R s m args below meth c H locs cells slots Q (F0 m pc ls rest) "java/lang/ArrayIndexOutOfBoundsException" tx) : W p l e R s m args below meth c H locs cells slots Q (F0 m pc ls (.int x :: .int i :: .ref a :: rest)) := by
  intro T hT X
  obtain ⟨t, st, q⟩ := k _ rfl T hT X
  refine ⟨t, ?_, q⟩
  have h1 := X.iastoreOut hexec (by rw [hT]; exact hP q0 _ ha) ((hK.2 t0 _ ht).1 n (fun j => .int (f j))) (j := i) (by show (i < 0 ∨ (arrV _ _ _).slots.size ≤ _); rw [arrV_size]; exact Classical.byContradiction hout) (g := F0 m pc ls (.int x :: .int i :: .ref a :: rest)) rfl (rest := rest) rfl (by rw [hb]; exact hdg) t
  simp only [arrV_size] at h1
  exact h1 st
theorem vx_baldZ {D : va_G} {cl : List vw_C} {ws : va_W} {tys : List (ClassId × FieldType)} {a : Nat} (hexec : p.tables.exec = Jvm.exec) (hb : c.code = cc) (hK : va_K D cl tys s) (hP : va_P D cl ws H) (q0 t0 : Nat) {cA : ClassId} {n : Nat} {f : Nat → Int32} (ha : ws[q0]? = some (a, .inl (cA, n, .inl f))) (ht : tys[t0]? = some (cA, .byte)) {i : Int32} (hout : ¬ vp_in i n) (hdg : decode cc pc = .ok (.baload, 1))
    (k : ∀ tx : String, tx = (toString "Index " ++ toString i ++ toString " out of bounds for length " ++ toString n : String) → vx_Note p l e R s m args below meth c H locs cells slots Q (F0 m pc ls rest) "java/lang/ArrayIndexOutOfBoundsException" tx) : W p l e R s m args below meth c H locs cells slots Q (F0 m pc ls (.int i :: .ref a :: rest)) := by
  intro T hT X
  obtain ⟨t, st, q⟩ := k _ rfl T hT X
  refine ⟨t, ?_, q⟩
  have h1 := X.baloadOut hexec (by rw [hT]; exact hP q0 _ ha) ((hK.2 t0 _ ht).1 n (fun j => .int (f j))) (j := i) (by show (i < 0 ∨ (arrV _ _ _).slots.size ≤ _); rw [arrV_size]; exact Classical.byContradiction hout) (g := F0 m pc ls (.int i :: .ref a :: rest)) rfl (rest := rest) rfl (by rw [hb]; exact hdg) t
  simp only [arrV_size] at h1
  exact h1 st
theorem vx_bastZ {D : va_G} {cl : List vw_C} {ws : va_W} {tys : List (ClassId × FieldType)} {a : Nat} (hexec : p.tables.exec = Jvm.exec) (hb : c.code = cc) (hK : va_K D cl tys s) (hP : va_P D cl ws H) (q0 t0 : Nat) {cA : ClassId} {n : Nat} {f : Nat → Int32} (ha : ws[q0]? = some (a, .inl (cA, n, .inl f))) (ht : tys[t0]? = some (cA, .byte)) {i : Int32} {x : Int32} (hout : ¬ vp_in i n) (hdg : decode cc pc = .ok (.bastore, 1))
    (k : ∀ tx : String, tx = (toString "Index " ++ toString i ++ toString " out of bounds for length " ++ toString n : String) → vx_Note p l e R s m args below meth c H locs cells slots Q (F0 m pc ls rest) "java/lang/ArrayIndexOutOfBoundsException" tx) : W p l e R s m args below meth c H locs cells slots Q (F0 m pc ls (.int x :: .int i :: .ref a :: rest)) := by
  intro T hT X
  obtain ⟨t, st, q⟩ := k _ rfl T hT X
  refine ⟨t, ?_, q⟩
  have h1 := X.bastoreOut hexec (by rw [hT]; exact hP q0 _ ha) ((hK.2 t0 _ ht).1 n (fun j => .int (f j))) (j := i) (by show (i < 0 ∨ (arrV _ _ _).slots.size ≤ _); rw [arrV_size]; exact Classical.byContradiction hout) (g := F0 m pc ls (.int x :: .int i :: .ref a :: rest)) rfl (rest := rest) rfl (by rw [hb]; exact hdg) t
  simp only [arrV_size] at h1
  exact h1 st
theorem vx_zaldZ {D : va_G} {cl : List vw_C} {ws : va_W} {tys : List (ClassId × FieldType)} {a : Nat} (hexec : p.tables.exec = Jvm.exec) (hb : c.code = cc) (hK : va_K D cl tys s) (hP : va_P D cl ws H) (q0 t0 : Nat) {cA : ClassId} {n : Nat} {f : Nat → Int32} (ha : ws[q0]? = some (a, .inl (cA, n, .inl f))) (ht : tys[t0]? = some (cA, .boolean)) {i : Int32} (hout : ¬ vp_in i n) (hdg : decode cc pc = .ok (.baload, 1))
    (k : ∀ tx : String, tx = (toString "Index " ++ toString i ++ toString " out of bounds for length " ++ toString n : String) → vx_Note p l e R s m args below meth c H locs cells slots Q (F0 m pc ls rest) "java/lang/ArrayIndexOutOfBoundsException" tx) : W p l e R s m args below meth c H locs cells slots Q (F0 m pc ls (.int i :: .ref a :: rest)) := by
  intro T hT X
  obtain ⟨t, st, q⟩ := k _ rfl T hT X
  refine ⟨t, ?_, q⟩
  have h1 := X.baloadOut hexec (by rw [hT]; exact hP q0 _ ha) ((hK.2 t0 _ ht).1 n (fun j => .int (f j))) (j := i) (by show (i < 0 ∨ (arrV _ _ _).slots.size ≤ _); rw [arrV_size]; exact Classical.byContradiction hout) (g := F0 m pc ls (.int i :: .ref a :: rest)) rfl (rest := rest) rfl (by rw [hb]; exact hdg) t
  simp only [arrV_size] at h1
  exact h1 st
theorem vx_zastZ {D : va_G} {cl : List vw_C} {ws : va_W} {tys : List (ClassId × FieldType)} {a : Nat} (hexec : p.tables.exec = Jvm.exec) (hb : c.code = cc) (hK : va_K D cl tys s) (hP : va_P D cl ws H) (q0 t0 : Nat) {cA : ClassId} {n : Nat} {f : Nat → Int32} (ha : ws[q0]? = some (a, .inl (cA, n, .inl f))) (ht : tys[t0]? = some (cA, .boolean)) {i : Int32} {x : Int32} (hout : ¬ vp_in i n) (hdg : decode cc pc = .ok (.bastore, 1))
    (k : ∀ tx : String, tx = (toString "Index " ++ toString i ++ toString " out of bounds for length " ++ toString n : String) → vx_Note p l e R s m args below meth c H locs cells slots Q (F0 m pc ls rest) "java/lang/ArrayIndexOutOfBoundsException" tx) : W p l e R s m args below meth c H locs cells slots Q (F0 m pc ls (.int x :: .int i :: .ref a :: rest)) := by
  intro T hT X
  obtain ⟨t, st, q⟩ := k _ rfl T hT X
  refine ⟨t, ?_, q⟩
  have h1 := X.bastoreOut hexec (by rw [hT]; exact hP q0 _ ha) ((hK.2 t0 _ ht).1 n (fun j => .int (f j))) (j := i) (by show (i < 0 ∨ (arrV _ _ _).slots.size ≤ _); rw [arrV_size]; exact Classical.byContradiction hout) (g := F0 m pc ls (.int x :: .int i :: .ref a :: rest)) rfl (rest := rest) rfl (by rw [hb]; exact hdg) t
  simp only [arrV_size] at h1
  exact h1 st
theorem vx_caldZ {D : va_G} {cl : List vw_C} {ws : va_W} {tys : List (ClassId × FieldType)} {a : Nat} (hexec : p.tables.exec = Jvm.exec) (hb : c.code = cc) (hK : va_K D cl tys s) (hP : va_P D cl ws H) (q0 t0 : Nat) {cA : ClassId} {n : Nat} {f : Nat → Int32} (ha : ws[q0]? = some (a, .inl (cA, n, .inl f))) (ht : tys[t0]? = some (cA, .char)) {i : Int32} (hout : ¬ vp_in i n) (hdg : decode cc pc = .ok (.caload, 1))
    (k : ∀ tx : String, tx = (toString "Index " ++ toString i ++ toString " out of bounds for length " ++ toString n : String) → vx_Note p l e R s m args below meth c H locs cells slots Q (F0 m pc ls rest) "java/lang/ArrayIndexOutOfBoundsException" tx) : W p l e R s m args below meth c H locs cells slots Q (F0 m pc ls (.int i :: .ref a :: rest)) := by
  intro T hT X
  obtain ⟨t, st, q⟩ := k _ rfl T hT X
  refine ⟨t, ?_, q⟩
  have h1 := X.caloadOut hexec (by rw [hT]; exact hP q0 _ ha) ((hK.2 t0 _ ht).1 n (fun j => .int (f j))) (j := i) (by show (i < 0 ∨ (arrV _ _ _).slots.size ≤ _); rw [arrV_size]; exact Classical.byContradiction hout) (g := F0 m pc ls (.int i :: .ref a :: rest)) rfl (rest := rest) rfl (by rw [hb]; exact hdg) t
  simp only [arrV_size] at h1
  exact h1 st
theorem vx_castZ {D : va_G} {cl : List vw_C} {ws : va_W} {tys : List (ClassId × FieldType)} {a : Nat} (hexec : p.tables.exec = Jvm.exec) (hb : c.code = cc) (hK : va_K D cl tys s) (hP : va_P D cl ws H) (q0 t0 : Nat) {cA : ClassId} {n : Nat} {f : Nat → Int32} (ha : ws[q0]? = some (a, .inl (cA, n, .inl f))) (ht : tys[t0]? = some (cA, .char)) {i : Int32} {x : Int32} (hout : ¬ vp_in i n) (hdg : decode cc pc = .ok (.castore, 1))
    (k : ∀ tx : String, tx = (toString "Index " ++ toString i ++ toString " out of bounds for length " ++ toString n : String) → vx_Note p l e R s m args below meth c H locs cells slots Q (F0 m pc ls rest) "java/lang/ArrayIndexOutOfBoundsException" tx) : W p l e R s m args below meth c H locs cells slots Q (F0 m pc ls (.int x :: .int i :: .ref a :: rest)) := by
  intro T hT X
  obtain ⟨t, st, q⟩ := k _ rfl T hT X
  refine ⟨t, ?_, q⟩
  have h1 := X.castoreOut hexec (by rw [hT]; exact hP q0 _ ha) ((hK.2 t0 _ ht).1 n (fun j => .int (f j))) (j := i) (by show (i < 0 ∨ (arrV _ _ _).slots.size ≤ _); rw [arrV_size]; exact Classical.byContradiction hout) (g := F0 m pc ls (.int x :: .int i :: .ref a :: rest)) rfl (rest := rest) rfl (by rw [hb]; exact hdg) t
  simp only [arrV_size] at h1
  exact h1 st
theorem vx_saldZ {D : va_G} {cl : List vw_C} {ws : va_W} {tys : List (ClassId × FieldType)} {a : Nat} (hexec : p.tables.exec = Jvm.exec) (hb : c.code = cc) (hK : va_K D cl tys s) (hP : va_P D cl ws H) (q0 t0 : Nat) {cA : ClassId} {n : Nat} {f : Nat → Int32} (ha : ws[q0]? = some (a, .inl (cA, n, .inl f))) (ht : tys[t0]? = some (cA, .short)) {i : Int32} (hout : ¬ vp_in i n) (hdg : decode cc pc = .ok (.saload, 1))
    (k : ∀ tx : String, tx = (toString "Index " ++ toString i ++ toString " out of bounds for length " ++ toString n : String) → vx_Note p l e R s m args below meth c H locs cells slots Q (F0 m pc ls rest) "java/lang/ArrayIndexOutOfBoundsException" tx) : W p l e R s m args below meth c H locs cells slots Q (F0 m pc ls (.int i :: .ref a :: rest)) := by
  intro T hT X
  obtain ⟨t, st, q⟩ := k _ rfl T hT X
  refine ⟨t, ?_, q⟩
  have h1 := X.saloadOut hexec (by rw [hT]; exact hP q0 _ ha) ((hK.2 t0 _ ht).1 n (fun j => .int (f j))) (j := i) (by show (i < 0 ∨ (arrV _ _ _).slots.size ≤ _); rw [arrV_size]; exact Classical.byContradiction hout) (g := F0 m pc ls (.int i :: .ref a :: rest)) rfl (rest := rest) rfl (by rw [hb]; exact hdg) t
  simp only [arrV_size] at h1
  exact h1 st
theorem vx_sastZ {D : va_G} {cl : List vw_C} {ws : va_W} {tys : List (ClassId × FieldType)} {a : Nat} (hexec : p.tables.exec = Jvm.exec) (hb : c.code = cc) (hK : va_K D cl tys s) (hP : va_P D cl ws H) (q0 t0 : Nat) {cA : ClassId} {n : Nat} {f : Nat → Int32} (ha : ws[q0]? = some (a, .inl (cA, n, .inl f))) (ht : tys[t0]? = some (cA, .short)) {i : Int32} {x : Int32} (hout : ¬ vp_in i n) (hdg : decode cc pc = .ok (.sastore, 1))
    (k : ∀ tx : String, tx = (toString "Index " ++ toString i ++ toString " out of bounds for length " ++ toString n : String) → vx_Note p l e R s m args below meth c H locs cells slots Q (F0 m pc ls rest) "java/lang/ArrayIndexOutOfBoundsException" tx) : W p l e R s m args below meth c H locs cells slots Q (F0 m pc ls (.int x :: .int i :: .ref a :: rest)) := by
  intro T hT X
  obtain ⟨t, st, q⟩ := k _ rfl T hT X
  refine ⟨t, ?_, q⟩
  have h1 := X.sastoreOut hexec (by rw [hT]; exact hP q0 _ ha) ((hK.2 t0 _ ht).1 n (fun j => .int (f j))) (j := i) (by show (i < 0 ∨ (arrV _ _ _).slots.size ≤ _); rw [arrV_size]; exact Classical.byContradiction hout) (g := F0 m pc ls (.int x :: .int i :: .ref a :: rest)) rfl (rest := rest) rfl (by rw [hb]; exact hdg) t
  simp only [arrV_size] at h1
  exact h1 st
theorem vx_laldZ {D : va_G} {cl : List vw_C} {ws : va_W} {tys : List (ClassId × FieldType)} {a : Nat} (hexec : p.tables.exec = Jvm.exec) (hb : c.code = cc) (hK : va_K D cl tys s) (hP : va_P D cl ws H) (q0 t0 : Nat) {cA : ClassId} {n : Nat} {f : Nat → Int64} (ha : ws[q0]? = some (a, .inl (cA, n, .inr (.inl f)))) (ht : tys[t0]? = some (cA, .long)) {i : Int32} (hout : ¬ vp_in i n) (hdg : decode cc pc = .ok (.laload, 1))
    (k : ∀ tx : String, tx = (toString "Index " ++ toString i ++ toString " out of bounds for length " ++ toString n : String) → vx_Note p l e R s m args below meth c H locs cells slots Q (F0 m pc ls rest) "java/lang/ArrayIndexOutOfBoundsException" tx) : W p l e R s m args below meth c H locs cells slots Q (F0 m pc ls (.int i :: .ref a :: rest)) := by
  intro T hT X
  obtain ⟨t, st, q⟩ := k _ rfl T hT X
  refine ⟨t, ?_, q⟩
  have h1 := X.laloadOut hexec (by rw [hT]; exact hP q0 _ ha) ((hK.2 t0 _ ht).1 n (fun j => .long (f j))) (j := i) (by show (i < 0 ∨ (arrV _ _ _).slots.size ≤ _); rw [arrV_size]; exact Classical.byContradiction hout) (g := F0 m pc ls (.int i :: .ref a :: rest)) rfl (rest := rest) rfl (by rw [hb]; exact hdg) t
  simp only [arrV_size] at h1
  exact h1 st
theorem vx_lastZ {D : va_G} {cl : List vw_C} {ws : va_W} {tys : List (ClassId × FieldType)} {a : Nat} (hexec : p.tables.exec = Jvm.exec) (hb : c.code = cc) (hK : va_K D cl tys s) (hP : va_P D cl ws H) (q0 t0 : Nat) {cA : ClassId} {n : Nat} {f : Nat → Int64} (ha : ws[q0]? = some (a, .inl (cA, n, .inr (.inl f)))) (ht : tys[t0]? = some (cA, .long)) {i : Int32} {x : Int64} (hout : ¬ vp_in i n) (hdg : decode cc pc = .ok (.lastore, 1))
    (k : ∀ tx : String, tx = (toString "Index " ++ toString i ++ toString " out of bounds for length " ++ toString n : String) → vx_Note p l e R s m args below meth c H locs cells slots Q (F0 m pc ls rest) "java/lang/ArrayIndexOutOfBoundsException" tx) : W p l e R s m args below meth c H locs cells slots Q (F0 m pc ls (.long x :: .int i :: .ref a :: rest)) := by
  intro T hT X
  obtain ⟨t, st, q⟩ := k _ rfl T hT X
  refine ⟨t, ?_, q⟩
  have h1 := X.lastoreOut hexec (by rw [hT]; exact hP q0 _ ha) ((hK.2 t0 _ ht).1 n (fun j => .long (f j))) (j := i) (by show (i < 0 ∨ (arrV _ _ _).slots.size ≤ _); rw [arrV_size]; exact Classical.byContradiction hout) (g := F0 m pc ls (.long x :: .int i :: .ref a :: rest)) rfl (rest := rest) rfl (by rw [hb]; exact hdg) t
  simp only [arrV_size] at h1
  exact h1 st
theorem vx_faldZ {D : va_G} {cl : List vw_C} {ws : va_W} {tys : List (ClassId × FieldType)} {a : Nat} (hexec : p.tables.exec = Jvm.exec) (hb : c.code = cc) (hK : va_K D cl tys s) (hP : va_P D cl ws H) (q0 t0 : Nat) {cA : ClassId} {n : Nat} {f : Nat → UInt32} (ha : ws[q0]? = some (a, .inl (cA, n, .inr (.inr (.inl f))))) (ht : tys[t0]? = some (cA, .float)) {i : Int32} (hout : ¬ vp_in i n) (hdg : decode cc pc = .ok (.faload, 1))
    (k : ∀ tx : String, tx = (toString "Index " ++ toString i ++ toString " out of bounds for length " ++ toString n : String) → vx_Note p l e R s m args below meth c H locs cells slots Q (F0 m pc ls rest) "java/lang/ArrayIndexOutOfBoundsException" tx) : W p l e R s m args below meth c H locs cells slots Q (F0 m pc ls (.int i :: .ref a :: rest)) := by
  intro T hT X
  obtain ⟨t, st, q⟩ := k _ rfl T hT X
  refine ⟨t, ?_, q⟩
  have h1 := X.faloadOut hexec (by rw [hT]; exact hP q0 _ ha) ((hK.2 t0 _ ht).1 n (fun j => .float (f j))) (j := i) (by show (i < 0 ∨ (arrV _ _ _).slots.size ≤ _); rw [arrV_size]; exact Classical.byContradiction hout) (g := F0 m pc ls (.int i :: .ref a :: rest)) rfl (rest := rest) rfl (by rw [hb]; exact hdg) t
  simp only [arrV_size] at h1
  exact h1 st
theorem vx_fastZ {D : va_G} {cl : List vw_C} {ws : va_W} {tys : List (ClassId × FieldType)} {a : Nat} (hexec : p.tables.exec = Jvm.exec) (hb : c.code = cc) (hK : va_K D cl tys s) (hP : va_P D cl ws H) (q0 t0 : Nat) {cA : ClassId} {n : Nat} {f : Nat → UInt32} (ha : ws[q0]? = some (a, .inl (cA, n, .inr (.inr (.inl f))))) (ht : tys[t0]? = some (cA, .float)) {i : Int32} {x : UInt32} (hout : ¬ vp_in i n) (hdg : decode cc pc = .ok (.fastore, 1))
    (k : ∀ tx : String, tx = (toString "Index " ++ toString i ++ toString " out of bounds for length " ++ toString n : String) → vx_Note p l e R s m args below meth c H locs cells slots Q (F0 m pc ls rest) "java/lang/ArrayIndexOutOfBoundsException" tx) : W p l e R s m args below meth c H locs cells slots Q (F0 m pc ls (.float x :: .int i :: .ref a :: rest)) := by
  intro T hT X
  obtain ⟨t, st, q⟩ := k _ rfl T hT X
  refine ⟨t, ?_, q⟩
  have h1 := X.fastoreOut hexec (by rw [hT]; exact hP q0 _ ha) ((hK.2 t0 _ ht).1 n (fun j => .float (f j))) (j := i) (by show (i < 0 ∨ (arrV _ _ _).slots.size ≤ _); rw [arrV_size]; exact Classical.byContradiction hout) (g := F0 m pc ls (.float x :: .int i :: .ref a :: rest)) rfl (rest := rest) rfl (by rw [hb]; exact hdg) t
  simp only [arrV_size] at h1
  exact h1 st
theorem vx_daldZ {D : va_G} {cl : List vw_C} {ws : va_W} {tys : List (ClassId × FieldType)} {a : Nat} (hexec : p.tables.exec = Jvm.exec) (hb : c.code = cc) (hK : va_K D cl tys s) (hP : va_P D cl ws H) (q0 t0 : Nat) {cA : ClassId} {n : Nat} {f : Nat → UInt64} (ha : ws[q0]? = some (a, .inl (cA, n, .inr (.inr (.inr (.inl f)))))) (ht : tys[t0]? = some (cA, .double)) {i : Int32} (hout : ¬ vp_in i n) (hdg : decode cc pc = .ok (.daload, 1))
    (k : ∀ tx : String, tx = (toString "Index " ++ toString i ++ toString " out of bounds for length " ++ toString n : String) → vx_Note p l e R s m args below meth c H locs cells slots Q (F0 m pc ls rest) "java/lang/ArrayIndexOutOfBoundsException" tx) : W p l e R s m args below meth c H locs cells slots Q (F0 m pc ls (.int i :: .ref a :: rest)) := by
  intro T hT X
  obtain ⟨t, st, q⟩ := k _ rfl T hT X
  refine ⟨t, ?_, q⟩
  have h1 := X.daloadOut hexec (by rw [hT]; exact hP q0 _ ha) ((hK.2 t0 _ ht).1 n (fun j => .double (f j))) (j := i) (by show (i < 0 ∨ (arrV _ _ _).slots.size ≤ _); rw [arrV_size]; exact Classical.byContradiction hout) (g := F0 m pc ls (.int i :: .ref a :: rest)) rfl (rest := rest) rfl (by rw [hb]; exact hdg) t
  simp only [arrV_size] at h1
  exact h1 st
theorem vx_dastZ {D : va_G} {cl : List vw_C} {ws : va_W} {tys : List (ClassId × FieldType)} {a : Nat} (hexec : p.tables.exec = Jvm.exec) (hb : c.code = cc) (hK : va_K D cl tys s) (hP : va_P D cl ws H) (q0 t0 : Nat) {cA : ClassId} {n : Nat} {f : Nat → UInt64} (ha : ws[q0]? = some (a, .inl (cA, n, .inr (.inr (.inr (.inl f)))))) (ht : tys[t0]? = some (cA, .double)) {i : Int32} {x : UInt64} (hout : ¬ vp_in i n) (hdg : decode cc pc = .ok (.dastore, 1))
    (k : ∀ tx : String, tx = (toString "Index " ++ toString i ++ toString " out of bounds for length " ++ toString n : String) → vx_Note p l e R s m args below meth c H locs cells slots Q (F0 m pc ls rest) "java/lang/ArrayIndexOutOfBoundsException" tx) : W p l e R s m args below meth c H locs cells slots Q (F0 m pc ls (.double x :: .int i :: .ref a :: rest)) := by
  intro T hT X
  obtain ⟨t, st, q⟩ := k _ rfl T hT X
  refine ⟨t, ?_, q⟩
  have h1 := X.dastoreOut hexec (by rw [hT]; exact hP q0 _ ha) ((hK.2 t0 _ ht).1 n (fun j => .double (f j))) (j := i) (by show (i < 0 ∨ (arrV _ _ _).slots.size ≤ _); rw [arrV_size]; exact Classical.byContradiction hout) (g := F0 m pc ls (.double x :: .int i :: .ref a :: rest)) rfl (rest := rest) rfl (by rw [hb]; exact hdg) t
  simp only [arrV_size] at h1
  exact h1 st
theorem vx_arraylengthN (hexec : p.tables.exec = Jvm.exec) (hb : c.code = cc) (hdg : decode cc pc = .ok (.arraylength, 1)) (k : vx_NoteN p l e R s m args below meth c H locs cells slots Q (F0 m pc ls rest)) : W p l e R s m args below meth c H locs cells slots Q (F0 m pc ls (.null :: rest)) := by
  intro T hT X
  obtain ⟨t, st, q⟩ := k T hT X
  exact ⟨t, X.arraylengthNull hexec (g := F0 m pc ls (.null :: rest)) rfl (rest := rest) rfl (by rw [hb]; exact hdg) t st, q⟩
theorem vx_ialoadN (hexec : p.tables.exec = Jvm.exec) (hb : c.code = cc) {i : Int32} (hdg : decode cc pc = .ok (.iaload, 1)) (k : vx_NoteN p l e R s m args below meth c H locs cells slots Q (F0 m pc ls rest)) : W p l e R s m args below meth c H locs cells slots Q (F0 m pc ls (.int i :: .null :: rest)) := by
  intro T hT X
  obtain ⟨t, st, q⟩ := k T hT X
  exact ⟨t, X.ialoadNull hexec (g := F0 m pc ls (.int i :: .null :: rest)) rfl (rest := rest) rfl (by rw [hb]; exact hdg) t st, q⟩
theorem vx_laloadN (hexec : p.tables.exec = Jvm.exec) (hb : c.code = cc) {i : Int32} (hdg : decode cc pc = .ok (.laload, 1)) (k : vx_NoteN p l e R s m args below meth c H locs cells slots Q (F0 m pc ls rest)) : W p l e R s m args below meth c H locs cells slots Q (F0 m pc ls (.int i :: .null :: rest)) := by
  intro T hT X
  obtain ⟨t, st, q⟩ := k T hT X
  exact ⟨t, X.laloadNull hexec (g := F0 m pc ls (.int i :: .null :: rest)) rfl (rest := rest) rfl (by rw [hb]; exact hdg) t st, q⟩
theorem vx_faloadN (hexec : p.tables.exec = Jvm.exec) (hb : c.code = cc) {i : Int32} (hdg : decode cc pc = .ok (.faload, 1)) (k : vx_NoteN p l e R s m args below meth c H locs cells slots Q (F0 m pc ls rest)) : W p l e R s m args below meth c H locs cells slots Q (F0 m pc ls (.int i :: .null :: rest)) := by
  intro T hT X
  obtain ⟨t, st, q⟩ := k T hT X
  exact ⟨t, X.faloadNull hexec (g := F0 m pc ls (.int i :: .null :: rest)) rfl (rest := rest) rfl (by rw [hb]; exact hdg) t st, q⟩
theorem vx_daloadN (hexec : p.tables.exec = Jvm.exec) (hb : c.code = cc) {i : Int32} (hdg : decode cc pc = .ok (.daload, 1)) (k : vx_NoteN p l e R s m args below meth c H locs cells slots Q (F0 m pc ls rest)) : W p l e R s m args below meth c H locs cells slots Q (F0 m pc ls (.int i :: .null :: rest)) := by
  intro T hT X
  obtain ⟨t, st, q⟩ := k T hT X
  exact ⟨t, X.daloadNull hexec (g := F0 m pc ls (.int i :: .null :: rest)) rfl (rest := rest) rfl (by rw [hb]; exact hdg) t st, q⟩
theorem vx_aaloadN (hexec : p.tables.exec = Jvm.exec) (hb : c.code = cc) {i : Int32} (hdg : decode cc pc = .ok (.aaload, 1)) (k : vx_NoteN p l e R s m args below meth c H locs cells slots Q (F0 m pc ls rest)) : W p l e R s m args below meth c H locs cells slots Q (F0 m pc ls (.int i :: .null :: rest)) := by
  intro T hT X
  obtain ⟨t, st, q⟩ := k T hT X
  exact ⟨t, X.aaloadNull hexec (g := F0 m pc ls (.int i :: .null :: rest)) rfl (rest := rest) rfl (by rw [hb]; exact hdg) t st, q⟩
theorem vx_baloadN (hexec : p.tables.exec = Jvm.exec) (hb : c.code = cc) {i : Int32} (hdg : decode cc pc = .ok (.baload, 1)) (k : vx_NoteN p l e R s m args below meth c H locs cells slots Q (F0 m pc ls rest)) : W p l e R s m args below meth c H locs cells slots Q (F0 m pc ls (.int i :: .null :: rest)) := by
  intro T hT X
  obtain ⟨t, st, q⟩ := k T hT X
  exact ⟨t, X.baloadNull hexec (g := F0 m pc ls (.int i :: .null :: rest)) rfl (rest := rest) rfl (by rw [hb]; exact hdg) t st, q⟩
theorem vx_caloadN (hexec : p.tables.exec = Jvm.exec) (hb : c.code = cc) {i : Int32} (hdg : decode cc pc = .ok (.caload, 1)) (k : vx_NoteN p l e R s m args below meth c H locs cells slots Q (F0 m pc ls rest)) : W p l e R s m args below meth c H locs cells slots Q (F0 m pc ls (.int i :: .null :: rest)) := by
  intro T hT X
  obtain ⟨t, st, q⟩ := k T hT X
  exact ⟨t, X.caloadNull hexec (g := F0 m pc ls (.int i :: .null :: rest)) rfl (rest := rest) rfl (by rw [hb]; exact hdg) t st, q⟩
theorem vx_saloadN (hexec : p.tables.exec = Jvm.exec) (hb : c.code = cc) {i : Int32} (hdg : decode cc pc = .ok (.saload, 1)) (k : vx_NoteN p l e R s m args below meth c H locs cells slots Q (F0 m pc ls rest)) : W p l e R s m args below meth c H locs cells slots Q (F0 m pc ls (.int i :: .null :: rest)) := by
  intro T hT X
  obtain ⟨t, st, q⟩ := k T hT X
  exact ⟨t, X.saloadNull hexec (g := F0 m pc ls (.int i :: .null :: rest)) rfl (rest := rest) rfl (by rw [hb]; exact hdg) t st, q⟩
theorem vx_iastoreN (hexec : p.tables.exec = Jvm.exec) (hb : c.code = cc) {x : Int32} {i : Int32} (hdg : decode cc pc = .ok (.iastore, 1)) (k : vx_NoteN p l e R s m args below meth c H locs cells slots Q (F0 m pc ls rest)) : W p l e R s m args below meth c H locs cells slots Q (F0 m pc ls (.int x :: .int i :: .null :: rest)) := by
  intro T hT X
  obtain ⟨t, st, q⟩ := k T hT X
  exact ⟨t, X.iastoreNull hexec (g := F0 m pc ls (.int x :: .int i :: .null :: rest)) rfl (rest := rest) rfl (by rw [hb]; exact hdg) t st, q⟩
theorem vx_lastoreN (hexec : p.tables.exec = Jvm.exec) (hb : c.code = cc) {x : Int64} {i : Int32} (hdg : decode cc pc = .ok (.lastore, 1)) (k : vx_NoteN p l e R s m args below meth c H locs cells slots Q (F0 m pc ls rest)) : W p l e R s m args below meth c H locs cells slots Q (F0 m pc ls (.long x :: .int i :: .null :: rest)) := by
  intro T hT X
  obtain ⟨t, st, q⟩ := k T hT X
  exact ⟨t, X.lastoreNull hexec (g := F0 m pc ls (.long x :: .int i :: .null :: rest)) rfl (rest := rest) rfl (by rw [hb]; exact hdg) t st, q⟩
theorem vx_fastoreN (hexec : p.tables.exec = Jvm.exec) (hb : c.code = cc) {x : UInt32} {i : Int32} (hdg : decode cc pc = .ok (.fastore, 1)) (k : vx_NoteN p l e R s m args below meth c H locs cells slots Q (F0 m pc ls rest)) : W p l e R s m args below meth c H locs cells slots Q (F0 m pc ls (.float x :: .int i :: .null :: rest)) := by
  intro T hT X
  obtain ⟨t, st, q⟩ := k T hT X
  exact ⟨t, X.fastoreNull hexec (g := F0 m pc ls (.float x :: .int i :: .null :: rest)) rfl (rest := rest) rfl (by rw [hb]; exact hdg) t st, q⟩
theorem vx_dastoreN (hexec : p.tables.exec = Jvm.exec) (hb : c.code = cc) {x : UInt64} {i : Int32} (hdg : decode cc pc = .ok (.dastore, 1)) (k : vx_NoteN p l e R s m args below meth c H locs cells slots Q (F0 m pc ls rest)) : W p l e R s m args below meth c H locs cells slots Q (F0 m pc ls (.double x :: .int i :: .null :: rest)) := by
  intro T hT X
  obtain ⟨t, st, q⟩ := k T hT X
  exact ⟨t, X.dastoreNull hexec (g := F0 m pc ls (.double x :: .int i :: .null :: rest)) rfl (rest := rest) rfl (by rw [hb]; exact hdg) t st, q⟩
theorem vx_bastoreN (hexec : p.tables.exec = Jvm.exec) (hb : c.code = cc) {x : Int32} {i : Int32} (hdg : decode cc pc = .ok (.bastore, 1)) (k : vx_NoteN p l e R s m args below meth c H locs cells slots Q (F0 m pc ls rest)) : W p l e R s m args below meth c H locs cells slots Q (F0 m pc ls (.int x :: .int i :: .null :: rest)) := by
  intro T hT X
  obtain ⟨t, st, q⟩ := k T hT X
  exact ⟨t, X.bastoreNull hexec (g := F0 m pc ls (.int x :: .int i :: .null :: rest)) rfl (rest := rest) rfl (by rw [hb]; exact hdg) t st, q⟩
theorem vx_castoreN (hexec : p.tables.exec = Jvm.exec) (hb : c.code = cc) {x : Int32} {i : Int32} (hdg : decode cc pc = .ok (.castore, 1)) (k : vx_NoteN p l e R s m args below meth c H locs cells slots Q (F0 m pc ls rest)) : W p l e R s m args below meth c H locs cells slots Q (F0 m pc ls (.int x :: .int i :: .null :: rest)) := by
  intro T hT X
  obtain ⟨t, st, q⟩ := k T hT X
  exact ⟨t, X.castoreNull hexec (g := F0 m pc ls (.int x :: .int i :: .null :: rest)) rfl (rest := rest) rfl (by rw [hb]; exact hdg) t st, q⟩
theorem vx_sastoreN (hexec : p.tables.exec = Jvm.exec) (hb : c.code = cc) {x : Int32} {i : Int32} (hdg : decode cc pc = .ok (.sastore, 1)) (k : vx_NoteN p l e R s m args below meth c H locs cells slots Q (F0 m pc ls rest)) : W p l e R s m args below meth c H locs cells slots Q (F0 m pc ls (.int x :: .int i :: .null :: rest)) := by
  intro T hT X
  obtain ⟨t, st, q⟩ := k T hT X
  exact ⟨t, X.sastoreNull hexec (g := F0 m pc ls (.int x :: .int i :: .null :: rest)) rfl (rest := rest) rfl (by rw [hb]; exact hdg) t st, q⟩
theorem vx_invokeN {own C : String} {index maxL : Nat} {y : MethodName} {bytes : ByteArray} {ret : Option FieldType} (hexec : p.tables.exec = Jvm.exec) (hb : c.code = cc) (hown : s.vm.findClass own = some m.cls) (hlink : (Cond.methodLink own index y).before args s = true) (hinst : (Cond.instanceMethod y).before args s = true) (hcode : (Cond.code y bytes maxL ret).before args s = true) (hsel : (Cond.selects C y y).before args s = true)
    (hx : y.cls ≠ "java/lang/invoke/MethodHandle" ∧ y.cls ≠ "java/lang/invoke/VarHandle") {As : List Value} (hlen : (parseMethodDescriptor y.desc).map (fun d => d.parameters.length) = some As.length) (hdg : decode cc pc = .ok (.invokevirtual index, 3))
    (k : vx_NoteN p l e R s m args below meth c H locs cells slots Q (F0 m pc ls rest)) {st0 : List Value} (hst : st0 = As.reverse ++ .null :: rest) : W p l e R s m args below meth c H locs cells slots Q (F0 m pc ls st0) := by
  intro T hT X
  obtain ⟨r0, r, hn, hrm, hstR, hsigR⟩ := va_Decl.of hinst hcode
  obtain ⟨c2, r2, m2, q1, q2, q3, q4, kP, hkP, hkPi⟩ := Cond.selects_spec hsel
  cases hn.symm.trans q3
  have hl9 : As.length = r.sig.parameters.length := by
    rw [hsigR] at hlen
    exact (Option.some.inj hlen).symm
  obtain ⟨vm', X1, st1⟩ := X.invokevirtualNull hexec hown hlink hn hrm hstR hkP hkPi hx (g := F0 m pc ls st0) rfl (argsL := As) (rest := rest) hl9 hst (by rw [hb]; exact hdg)
  obtain ⟨t, st, q⟩ := k (T.setVm vm') hT X1
  exact ⟨t, st1 t st, q⟩
theorem vx_newarrayZ {atype : ArrayType} (hexec : p.tables.exec = Jvm.exec) (hb : c.code = cc) {n : Int32} (h0 : n < 0) (hdg : decode cc pc = .ok (.newarray atype, 2)) (k : ∀ tx : String, tx = toString n → vx_Note p l e R s m args below meth c H locs cells slots Q (F0 m pc ls rest) "java/lang/NegativeArraySizeException" tx) : W p l e R s m args below meth c H locs cells slots Q (F0 m pc ls (.int n :: rest)) := by
  intro T hT X
  obtain ⟨t, st, q⟩ := k _ rfl T hT X
  exact ⟨t, X.newarrayNegative hexec (g := F0 m pc ls (.int n :: rest)) rfl h0 (rest := rest) rfl (by rw [hb]; exact hdg) t st, q⟩
end
end VXM
/-! ===== END ===== -/

def RX0 : String := "FilterRules$Groups"
def TX0 : u_T := fun k => match k with
  | 0 => ("FilterRules$Groups", "marks", "[I", true)
  | 1 => ("FilterRules$Groups", "sizes", "[I", true)
  | _ => ("FilterRules$Groups", "count", "I", false)
def tyX0 : Nat → FieldType := fun k => match k with
  | 0 => .array .int
  | 1 => .array .int
  | _ => .int
abbrev wsX00 : List Cond := u_ws RX0 TX0 3
theorem nmX0 : ∀ a, a < 3 → ∀ b, b < 3 → a ≠ b → (TX0 a).2.1 ≠ (TX0 b).2.1 := by decide +kernel
theorem tyX0_ok : ∀ k, k < 3 → parseFieldDescriptor (TX0 k).2.2.1 = some (tyX0 k) := by decide +kernel
abbrev cX0_init : ByteArray := prog_2_method_1_code
def yX0_init : MethodName := ⟨RX0, "<init>", "()V"⟩
abbrev cX0_put : ByteArray := prog_2_method_2_code
def yX0_put : MethodName := ⟨RX0, "put", "(I)V"⟩
def RX1 : String := "FilterRules$Rule"
def TX1 : u_T := fun k => match k with
  | 0 => ("FilterRules$Rule", "number", "I", false)
  | 1 => ("FilterRules$Rule", "action", "C", false)
  | 2 => ("FilterRules$Rule", "owner", "I", false)
  | 3 => ("FilterRules$Rule", "lastDay", "I", false)
  | 4 => ("FilterRules$Rule", "addedOn", "I", false)
  | 5 => ("FilterRules$Rule", "hitCount", "I", false)
  | 6 => ("FilterRules$Rule", "hitDays", "I", false)
  | 7 => ("FilterRules$Rule", "lastHitOn", "I", false)
  | 8 => ("FilterRules$Rule", "objects", "[I", true)
  | _ => ("FilterRules$Rule", "matching", "[I", true)
def tyX1 : Nat → FieldType := fun k => match k with
  | 0 => .int
  | 1 => .char
  | 2 => .int
  | 3 => .int
  | 4 => .int
  | 5 => .int
  | 6 => .int
  | 7 => .int
  | 8 => .array .int
  | _ => .array .int
abbrev wsX10 : List Cond := u_ws RX1 TX1 10
theorem nmX1 : ∀ a, a < 10 → ∀ b, b < 10 → a ≠ b → (TX1 a).2.1 ≠ (TX1 b).2.1 := by decide +kernel
theorem tyX1_ok : ∀ k, k < 10 → parseFieldDescriptor (TX1 k).2.2.1 = some (tyX1 k) := by decide +kernel
abbrev cX1_init : ByteArray := prog_3_method_1_code
def yX1_init : MethodName := ⟨RX1, "<init>", "()V"⟩
abbrev cX1_begin : ByteArray := prog_3_method_2_code
def yX1_begin : MethodName := ⟨RX1, "begin", "(ICII)V"⟩
abbrev cX1_hitOn : ByteArray := prog_3_method_3_code
def yX1_hitOn : MethodName := ⟨RX1, "hitOn", "(I)V"⟩
abbrev cX1_lastsOn : ByteArray := prog_3_method_4_code
def yX1_lastsOn : MethodName := ⟨RX1, "lastsOn", "(I)Z"⟩
abbrev cX1_matches : ByteArray := prog_3_method_5_code
def yX1_matches : MethodName := ⟨RX1, "matches", "(III)Z"⟩
def RX2 : String := "FilterRules$ValueSet"
def TX2 : u_T := fun k => match k with
  | 0 => ("FilterRules$ValueSet", "ranges", "[I", true)
  | 1 => ("FilterRules$ValueSet", "rangeCount", "I", false)
  | _ => ("FilterRules$ValueSet", "members", "I", false)
def tyX2 : Nat → FieldType := fun k => match k with
  | 0 => .array .int
  | 1 => .int
  | _ => .int
abbrev wsX20 : List Cond := u_ws RX2 TX2 3
theorem nmX2 : ∀ a, a < 3 → ∀ b, b < 3 → a ≠ b → (TX2 a).2.1 ≠ (TX2 b).2.1 := by decide +kernel
theorem tyX2_ok : ∀ k, k < 3 → parseFieldDescriptor (TX2 k).2.2.1 = some (tyX2 k) := by decide +kernel
abbrev cX2_init : ByteArray := prog_4_method_1_code
def yX2_init : MethodName := ⟨RX2, "<init>", "()V"⟩
abbrev cX2_ownValues : ByteArray := prog_4_method_2_code
def yX2_ownValues : MethodName := ⟨RX2, "ownValues", "()I"⟩
def RX3 : String := "FilterRules"
def TX3 : u_T := fun k => match k with
  | 0 => ("FilterRules", "sets", "[LFilterRules$ValueSet;", true)
  | 1 => ("FilterRules", "objectCount", "I", false)
  | 2 => ("FilterRules", "order", "[LFilterRules$Rule;", true)
  | 3 => ("FilterRules", "ruleCount", "I", false)
  | 4 => ("FilterRules", "nextNumber", "I", false)
  | 5 => ("FilterRules", "today", "I", false)
  | 6 => ("FilterRules", "groups", "[LFilterRules$Groups;", true)
  | 7 => ("FilterRules", "marksOfValues", "[I", true)
  | _ => ("FilterRules", "tally", "[[I", true)
def tyX3 : Nat → FieldType := fun k => match k with
  | 0 => .array (.object "FilterRules$ValueSet")
  | 1 => .int
  | 2 => .array (.object "FilterRules$Rule")
  | 3 => .int
  | 4 => .int
  | 5 => .int
  | 6 => .array (.object "FilterRules$Groups")
  | 7 => .array .int
  | _ => .array (.array .int)
abbrev wsX30 : List Cond := u_ws RX3 TX3 9
theorem nmX3 : ∀ a, a < 9 → ∀ b, b < 9 → a ≠ b → (TX3 a).2.1 ≠ (TX3 b).2.1 := by decide +kernel
theorem tyX3_ok : ∀ k, k < 9 → parseFieldDescriptor (TX3 k).2.2.1 = some (tyX3 k) := by decide +kernel
abbrev cX3_init : ByteArray := prog_1_method_1_code
def yX3_init : MethodName := ⟨RX3, "<init>", "()V"⟩
abbrev cX3_addObject : ByteArray := prog_1_method_2_code
def yX3_addObject : MethodName := ⟨RX3, "addObject", "()I"⟩
abbrev cX3_addRange : ByteArray := prog_1_method_3_code
def yX3_addRange : MethodName := ⟨RX3, "addRange", "(III)I"⟩
abbrev cX3_removeRange : ByteArray := prog_1_method_4_code
def yX3_removeRange : MethodName := ⟨RX3, "removeRange", "(I)I"⟩
abbrev cX3_addMember : ByteArray := prog_1_method_5_code
def yX3_addMember : MethodName := ⟨RX3, "addMember", "(II)I"⟩
abbrev cX3_removeMember : ByteArray := prog_1_method_6_code
def yX3_removeMember : MethodName := ⟨RX3, "removeMember", "(II)I"⟩
abbrev cX3_values : ByteArray := prog_1_method_7_code
def yX3_values : MethodName := ⟨RX3, "values", "(I)I"⟩
abbrev cX3_hasValue : ByteArray := prog_1_method_8_code
def yX3_hasValue : MethodName := ⟨RX3, "hasValue", "(II)Z"⟩
abbrev cX3_users : ByteArray := prog_1_method_9_code
def yX3_users : MethodName := ⟨RX3, "users", "(I)I"⟩
abbrev cX3_addRule : ByteArray := prog_1_method_10_code
def yX3_addRule : MethodName := ⟨RX3, "addRule", "(ICIIII)I"⟩
abbrev cX3_removeRule : ByteArray := prog_1_method_11_code
def yX3_removeRule : MethodName := ⟨RX3, "removeRule", "(I)I"⟩
abbrev cX3_setLastDay : ByteArray := prog_1_method_12_code
def yX3_setLastDay : MethodName := ⟨RX3, "setLastDay", "(II)I"⟩
abbrev cX3_rules : ByteArray := prog_1_method_13_code
def yX3_rules : MethodName := ⟨RX3, "rules", "()I"⟩
abbrev cX3_ruleAt : ByteArray := prog_1_method_14_code
def yX3_ruleAt : MethodName := ⟨RX3, "ruleAt", "(I)I"⟩
abbrev cX3_isInForce : ByteArray := prog_1_method_15_code
def yX3_isInForce : MethodName := ⟨RX3, "isInForce", "(I)Z"⟩
abbrev cX3_expiring : ByteArray := prog_1_method_16_code
def yX3_expiring : MethodName := ⟨RX3, "expiring", "(II)I"⟩
abbrev cX3_packet : ByteArray := prog_1_method_17_code
def yX3_packet : MethodName := ⟨RX3, "packet", "(III)C"⟩
abbrev cX3_decider : ByteArray := prog_1_method_18_code
def yX3_decider : MethodName := ⟨RX3, "decider", "(III)I"⟩
abbrev cX3_hits : ByteArray := prog_1_method_19_code
def yX3_hits : MethodName := ⟨RX3, "hits", "(I)I"⟩
abbrev cX3_busyDays : ByteArray := prog_1_method_20_code
def yX3_busyDays : MethodName := ⟨RX3, "busyDays", "(I)I"⟩
abbrev cX3_idleDays : ByteArray := prog_1_method_21_code
def yX3_idleDays : MethodName := ⟨RX3, "idleDays", "(I)I"⟩
abbrev cX3_pass : ByteArray := prog_1_method_22_code
def yX3_pass : MethodName := ⟨RX3, "pass", "(I)I"⟩
abbrev cX3_day : ByteArray := prog_1_method_23_code
def yX3_day : MethodName := ⟨RX3, "day", "()I"⟩
abbrev cX3_matched : ByteArray := prog_1_method_24_code
def yX3_matched : MethodName := ⟨RX3, "matched", "(I)I"⟩
abbrev cX3_decided : ByteArray := prog_1_method_25_code
def yX3_decided : MethodName := ⟨RX3, "decided", "(I)I"⟩
abbrev cX3_decidedBySamples : ByteArray := prog_1_method_26_code
def yX3_decidedBySamples : MethodName := ⟨RX3, "decidedBySamples", "(I)I"⟩
abbrev cX3_isShadowed : ByteArray := prog_1_method_27_code
def yX3_isShadowed : MethodName := ⟨RX3, "isShadowed", "(I)Z"⟩
abbrev cX3_mainShadow : ByteArray := prog_1_method_28_code
def yX3_mainShadow : MethodName := ⟨RX3, "mainShadow", "(I)I"⟩
abbrev cX3_accepted : ByteArray := prog_1_method_29_code
def yX3_accepted : MethodName := ⟨RX3, "accepted", "()I"⟩
abbrev cX3_changedByMove : ByteArray := prog_1_method_30_code
def yX3_changedByMove : MethodName := ⟨RX3, "changedByMove", "(II)I"⟩
abbrev cX3_move : ByteArray := prog_1_method_31_code
def yX3_move : MethodName := ⟨RX3, "move", "(II)I"⟩
abbrev cX3_sortByHits : ByteArray := prog_1_method_32_code
def yX3_sortByHits : MethodName := ⟨RX3, "sortByHits", "()I"⟩
abbrev cX3_changedByRange : ByteArray := prog_1_method_33_code
def yX3_changedByRange : MethodName := ⟨RX3, "changedByRange", "(III)I"⟩
abbrev cX3_shadowedShare : ByteArray := prog_1_method_34_code
def yX3_shadowedShare : MethodName := ⟨RX3, "shadowedShare", "()F"⟩
abbrev cX3_meanHits : ByteArray := prog_1_method_35_code
def yX3_meanHits : MethodName := ⟨RX3, "meanHits", "()D"⟩
abbrev cX3_requireObject : ByteArray := prog_1_method_36_code
def yX3_requireObject : MethodName := ⟨RX3, "requireObject", "(I)V"⟩
abbrev cX3_requireObjectOrNone : ByteArray := prog_1_method_37_code
def yX3_requireObjectOrNone : MethodName := ⟨RX3, "requireObjectOrNone", "(I)V"⟩
abbrev cX3_requirePosition : ByteArray := prog_1_method_38_code
def yX3_requirePosition : MethodName := ⟨RX3, "requirePosition", "(I)V"⟩
abbrev cX3_requireRule : ByteArray := prog_1_method_39_code
def yX3_requireRule : MethodName := ⟨RX3, "requireRule", "(I)I"⟩
abbrev cX3_requireValue : ByteArray := prog_1_method_40_code
def yX3_requireValue : MethodName := ⟨RX3, "requireValue", "(I)V"⟩
abbrev cX3_requireRange : ByteArray := prog_1_method_41_code
def yX3_requireRange : MethodName := ⟨RX3, "requireRange", "(II)V"⟩
abbrev cX3_requirePacket : ByteArray := prog_1_method_42_code
def yX3_requirePacket : MethodName := ⟨RX3, "requirePacket", "(III)V"⟩
abbrev cX3_requireOwner : ByteArray := prog_1_method_43_code
def yX3_requireOwner : MethodName := ⟨RX3, "requireOwner", "(I)V"⟩
abbrev cX3_requireDays : ByteArray := prog_1_method_44_code
def yX3_requireDays : MethodName := ⟨RX3, "requireDays", "(I)V"⟩
abbrev cX3_contains : ByteArray := prog_1_method_45_code
def yX3_contains : MethodName := ⟨RX3, "contains", "(II)Z"⟩
abbrev cX3_rangeOf : ByteArray := prog_1_method_46_code
def yX3_rangeOf : MethodName := ⟨RX3, "rangeOf", "(II)I"⟩
abbrev cX3_valuesOf : ByteArray := prog_1_method_47_code
def yX3_valuesOf : MethodName := ⟨RX3, "valuesOf", "([LFilterRules$ValueSet;II)I"⟩
abbrev cX3_needs : ByteArray := prog_1_method_48_code
def yX3_needs : MethodName := ⟨RX3, "needs", "([LFilterRules$ValueSet;III)Z"⟩
abbrev cX3_isOrNeeds : ByteArray := prog_1_method_49_code
def yX3_isOrNeeds : MethodName := ⟨RX3, "isOrNeeds", "(II)Z"⟩
abbrev cX3_updateMatching : ByteArray := prog_1_method_50_code
def yX3_updateMatching : MethodName := ⟨RX3, "updateMatching", "()V"⟩
abbrev cX3_deciding : ByteArray := prog_1_method_51_code
def yX3_deciding : MethodName := ⟨RX3, "deciding", "(III)I"⟩
abbrev cX3_actionOf : ByteArray := prog_1_method_52_code
def yX3_actionOf : MethodName := ⟨RX3, "actionOf", "(I)C"⟩
abbrev cX3_packetsIn : ByteArray := prog_1_method_53_code
def yX3_packetsIn : MethodName := ⟨RX3, "packetsIn", "(III)I"⟩
abbrev cX3_packetsInBoth : ByteArray := prog_1_method_54_code
def yX3_packetsInBoth : MethodName := ⟨RX3, "packetsInBoth", "(LFilterRules$Rule;LFilterRules$Rule;)I"⟩
abbrev cX3_inForceAhead : ByteArray := prog_1_method_55_code
def yX3_inForceAhead : MethodName := ⟨RX3, "inForceAhead", "(I)I"⟩
abbrev cX3_firstOf : ByteArray := prog_1_method_56_code
def yX3_firstOf : MethodName := ⟨RX3, "firstOf", "(I)I"⟩
abbrev cX3_leftOfBoth : ByteArray := prog_1_method_57_code
def yX3_leftOfBoth : MethodName := ⟨RX3, "leftOfBoth", "(LFilterRules$Rule;LFilterRules$Rule;I)I"⟩
abbrev cX3_leftOver : ByteArray := prog_1_method_58_code
def yX3_leftOver : MethodName := ⟨RX3, "leftOver", "([LFilterRules$Rule;IIII)I"⟩
abbrev cX3_decidedAt : ByteArray := prog_1_method_59_code
def yX3_decidedAt : MethodName := ⟨RX3, "decidedAt", "(I)I"⟩
abbrev cX3_isShadowedAt : ByteArray := prog_1_method_60_code
def yX3_isShadowedAt : MethodName := ⟨RX3, "isShadowedAt", "(I)Z"⟩
abbrev cX3_tallyDeciders : ByteArray := prog_1_method_61_code
def yX3_tallyDeciders : MethodName := ⟨RX3, "tallyDeciders", "(II)V"⟩
abbrev cX3_tallyServices : ByteArray := prog_1_method_62_code
def yX3_tallyServices : MethodName := ⟨RX3, "tallyServices", "(II)V"⟩
abbrev cX3_markValues : ByteArray := prog_1_method_63_code
def yX3_markValues : MethodName := ⟨RX3, "markValues", "(III)V"⟩
abbrev cX3_groupValues : ByteArray := prog_1_method_64_code
def yX3_groupValues : MethodName := ⟨RX3, "groupValues", "(LFilterRules$Groups;)V"⟩
abbrev cX3_shift : ByteArray := prog_1_method_65_code
def yX3_shift : MethodName := ⟨RX3, "shift", "(II)V"⟩
abbrev cX3_changedByShift : ByteArray := prog_1_method_66_code
def yX3_changedByShift : MethodName := ⟨RX3, "changedByShift", "(II)I"⟩
abbrev cX3_changedByRemoval : ByteArray := prog_1_method_67_code
def yX3_changedByRemoval : MethodName := ⟨RX3, "changedByRemoval", "(I)I"⟩
abbrev cX3_changedAgainst : ByteArray := prog_1_method_68_code
def yX3_changedAgainst : MethodName := ⟨RX3, "changedAgainst", "(III)I"⟩
abbrev cX3_swapByHits : ByteArray := prog_1_method_69_code
def yX3_swapByHits : MethodName := ⟨RX3, "swapByHits", "()I"⟩
def RX4 : String := "FilterRulesModel"
def TX4 : u_T := fun k => match k with
  | 0 => ("FilterRulesModel", "code", "I", false)
  | 1 => ("FilterRulesModel", "today", "I", false)
  | 2 => ("FilterRulesModel", "objects", "I", false)
  | 3 => ("FilterRulesModel", "ranges", "[I", true)
  | 4 => ("FilterRulesModel", "lows", "[I", true)
  | 5 => ("FilterRulesModel", "highs", "[I", true)
  | 6 => ("FilterRulesModel", "members", "[I", true)
  | 7 => ("FilterRulesModel", "member", "[I", true)
  | 8 => ("FilterRulesModel", "rules", "I", false)
  | 9 => ("FilterRulesModel", "given", "I", false)
  | 10 => ("FilterRulesModel", "order", "[I", true)
  | 11 => ("FilterRulesModel", "used", "[Z", true)
  | 12 => ("FilterRulesModel", "number", "[I", true)
  | 13 => ("FilterRulesModel", "accepts", "[Z", true)
  | 14 => ("FilterRulesModel", "field", "[I", true)
  | 15 => ("FilterRulesModel", "owner", "[I", true)
  | 16 => ("FilterRulesModel", "last", "[I", true)
  | 17 => ("FilterRulesModel", "hits", "[I", true)
  | 18 => ("FilterRulesModel", "seen", "[I", true)
  | 19 => ("FilterRulesModel", "busy", "[I", true)
  | 20 => ("FilterRulesModel", "busyDay", "[I", true)
  | 21 => ("FilterRulesModel", "sets", "[I", true)
  | 22 => ("FilterRulesModel", "books", "[I", true)
  | _ => ("FilterRulesModel", "tried", "[I", true)
def tyX4 : Nat → FieldType := fun k => match k with
  | 0 => .int
  | 1 => .int
  | 2 => .int
  | 3 => .array .int
  | 4 => .array .int
  | 5 => .array .int
  | 6 => .array .int
  | 7 => .array .int
  | 8 => .int
  | 9 => .int
  | 10 => .array .int
  | 11 => .array .boolean
  | 12 => .array .int
  | 13 => .array .boolean
  | 14 => .array .int
  | 15 => .array .int
  | 16 => .array .int
  | 17 => .array .int
  | 18 => .array .int
  | 19 => .array .int
  | 20 => .array .int
  | 21 => .array .int
  | 22 => .array .int
  | _ => .array .int
abbrev wsX40 : List Cond := u_ws RX4 TX4 24
theorem nmX4 : ∀ a, a < 24 → ∀ b, b < 24 → a ≠ b → (TX4 a).2.1 ≠ (TX4 b).2.1 := by decide +kernel
theorem tyX4_ok : ∀ k, k < 24 → parseFieldDescriptor (TX4 k).2.2.1 = some (tyX4 k) := by decide +kernel
abbrev cX4_init : ByteArray := prog_6_method_1_code
def yX4_init : MethodName := ⟨RX4, "<init>", "()V"⟩
abbrev cX4_thrown : ByteArray := prog_6_method_2_code
def yX4_thrown : MethodName := ⟨RX4, "thrown", "()I"⟩
abbrev cX4_in : ByteArray := prog_6_method_3_code
def yX4_in : MethodName := ⟨RX4, "in", "(III)Z"⟩
abbrev cX4_fails : ByteArray := prog_6_method_4_code
def yX4_fails : MethodName := ⟨RX4, "fails", "(I)I"⟩
abbrev cX4_isObject : ByteArray := prog_6_method_5_code
def yX4_isObject : MethodName := ⟨RX4, "isObject", "(I)Z"⟩
abbrev cX4_positionOf : ByteArray := prog_6_method_6_code
def yX4_positionOf : MethodName := ⟨RX4, "positionOf", "(I)I"⟩
abbrev cX4_slotOf : ByteArray := prog_6_method_7_code
def yX4_slotOf : MethodName := ⟨RX4, "slotOf", "(I)I"⟩
abbrev cX4_span : ByteArray := prog_6_method_8_code
def yX4_span : MethodName := ⟨RX4, "span", "(II)I"⟩
abbrev cX4_spreads : ByteArray := prog_6_method_9_code
def yX4_spreads : MethodName := ⟨RX4, "spreads", "(II)V"⟩
abbrev cX4_dependents : ByteArray := prog_6_method_10_code
def yX4_dependents : MethodName := ⟨RX4, "dependents", "(I)I"⟩
abbrev cX4_size : ByteArray := prog_6_method_11_code
def yX4_size : MethodName := ⟨RX4, "size", "(I)I"⟩
abbrev cX4_addObject : ByteArray := prog_6_method_12_code
def yX4_addObject : MethodName := ⟨RX4, "addObject", "()I"⟩
abbrev cX4_addRange : ByteArray := prog_6_method_13_code
def yX4_addRange : MethodName := ⟨RX4, "addRange", "(III)I"⟩
abbrev cX4_removeRange : ByteArray := prog_6_method_14_code
def yX4_removeRange : MethodName := ⟨RX4, "removeRange", "(I)I"⟩
abbrev cX4_memberAt : ByteArray := prog_6_method_15_code
def yX4_memberAt : MethodName := ⟨RX4, "memberAt", "(II)I"⟩
abbrev cX4_addMember : ByteArray := prog_6_method_16_code
def yX4_addMember : MethodName := ⟨RX4, "addMember", "(II)I"⟩
abbrev cX4_removeMember : ByteArray := prog_6_method_17_code
def yX4_removeMember : MethodName := ⟨RX4, "removeMember", "(II)I"⟩
abbrev cX4_values : ByteArray := prog_6_method_18_code
def yX4_values : MethodName := ⟨RX4, "values", "(I)I"⟩
abbrev cX4_hasValue : ByteArray := prog_6_method_19_code
def yX4_hasValue : MethodName := ⟨RX4, "hasValue", "(II)Z"⟩
abbrev cX4_users : ByteArray := prog_6_method_20_code
def yX4_users : MethodName := ⟨RX4, "users", "(I)I"⟩
abbrev cX4_isOn : ByteArray := prog_6_method_21_code
def yX4_isOn : MethodName := ⟨RX4, "isOn", "(I)Z"⟩
abbrev cX4_setOf : ByteArray := prog_6_method_22_code
def yX4_setOf : MethodName := ⟨RX4, "setOf", "(II)I"⟩
abbrev cX4_lays : ByteArray := prog_6_method_23_code
def yX4_lays : MethodName := ⟨RX4, "lays", "(I[II)V"⟩
abbrev cX4_first : ByteArray := prog_6_method_24_code
def yX4_first : MethodName := ⟨RX4, "first", "(I)I"⟩
abbrev cX4_laysNow : ByteArray := prog_6_method_25_code
def yX4_laysNow : MethodName := ⟨RX4, "laysNow", "()I"⟩
abbrev cX4_unlike : ByteArray := prog_6_method_26_code
def yX4_unlike : MethodName := ⟨RX4, "unlike", "()I"⟩
abbrev cX4_addRule : ByteArray := prog_6_method_27_code
def yX4_addRule : MethodName := ⟨RX4, "addRule", "(ICIIII)I"⟩
abbrev cX4_removeRule : ByteArray := prog_6_method_28_code
def yX4_removeRule : MethodName := ⟨RX4, "removeRule", "(I)I"⟩
abbrev cX4_setLastDay : ByteArray := prog_6_method_29_code
def yX4_setLastDay : MethodName := ⟨RX4, "setLastDay", "(II)I"⟩
abbrev cX4_rules : ByteArray := prog_6_method_30_code
def yX4_rules : MethodName := ⟨RX4, "rules", "()I"⟩
abbrev cX4_ruleAt : ByteArray := prog_6_method_31_code
def yX4_ruleAt : MethodName := ⟨RX4, "ruleAt", "(I)I"⟩
abbrev cX4_isInForce : ByteArray := prog_6_method_32_code
def yX4_isInForce : MethodName := ⟨RX4, "isInForce", "(I)Z"⟩
abbrev cX4_expiring : ByteArray := prog_6_method_33_code
def yX4_expiring : MethodName := ⟨RX4, "expiring", "(II)I"⟩
abbrev cX4_isPacket : ByteArray := prog_6_method_34_code
def yX4_isPacket : MethodName := ⟨RX4, "isPacket", "(III)Z"⟩
abbrev cX4_deciding : ByteArray := prog_6_method_35_code
def yX4_deciding : MethodName := ⟨RX4, "deciding", "(III)I"⟩
abbrev cX4_packet : ByteArray := prog_6_method_36_code
def yX4_packet : MethodName := ⟨RX4, "packet", "(III)C"⟩
abbrev cX4_decider : ByteArray := prog_6_method_37_code
def yX4_decider : MethodName := ⟨RX4, "decider", "(III)I"⟩
abbrev cX4_hits : ByteArray := prog_6_method_38_code
def yX4_hits : MethodName := ⟨RX4, "hits", "(I)I"⟩
abbrev cX4_busyDays : ByteArray := prog_6_method_39_code
def yX4_busyDays : MethodName := ⟨RX4, "busyDays", "(I)I"⟩
abbrev cX4_idleDays : ByteArray := prog_6_method_40_code
def yX4_idleDays : MethodName := ⟨RX4, "idleDays", "(I)I"⟩
abbrev cX4_pass : ByteArray := prog_6_method_41_code
def yX4_pass : MethodName := ⟨RX4, "pass", "(I)I"⟩
abbrev cX4_day : ByteArray := prog_6_method_42_code
def yX4_day : MethodName := ⟨RX4, "day", "()I"⟩
abbrev cX4_matched : ByteArray := prog_6_method_43_code
def yX4_matched : MethodName := ⟨RX4, "matched", "(I)I"⟩
abbrev cX4_deciding_ : ByteArray := prog_6_method_44_code
def yX4_deciding_ : MethodName := ⟨RX4, "deciding", "(I)I"⟩
abbrev cX4_decided : ByteArray := prog_6_method_45_code
def yX4_decided : MethodName := ⟨RX4, "decided", "(I)I"⟩
abbrev cX4_decidedBySamples : ByteArray := prog_6_method_46_code
def yX4_decidedBySamples : MethodName := ⟨RX4, "decidedBySamples", "(I)I"⟩
abbrev cX4_isShadowed : ByteArray := prog_6_method_47_code
def yX4_isShadowed : MethodName := ⟨RX4, "isShadowed", "(I)Z"⟩
abbrev cX4_mainShadow : ByteArray := prog_6_method_48_code
def yX4_mainShadow : MethodName := ⟨RX4, "mainShadow", "(I)I"⟩
abbrev cX4_accepted : ByteArray := prog_6_method_49_code
def yX4_accepted : MethodName := ⟨RX4, "accepted", "()I"⟩
abbrev cX4_byMove : ByteArray := prog_6_method_50_code
def yX4_byMove : MethodName := ⟨RX4, "byMove", "(II)I"⟩
abbrev cX4_changedByMove : ByteArray := prog_6_method_51_code
def yX4_changedByMove : MethodName := ⟨RX4, "changedByMove", "(II)I"⟩
abbrev cX4_takes : ByteArray := prog_6_method_52_code
def yX4_takes : MethodName := ⟨RX4, "takes", "()V"⟩
abbrev cX4_move : ByteArray := prog_6_method_53_code
def yX4_move : MethodName := ⟨RX4, "move", "(II)I"⟩
abbrev cX4_sortByHits : ByteArray := prog_6_method_54_code
def yX4_sortByHits : MethodName := ⟨RX4, "sortByHits", "()I"⟩
abbrev cX4_changedByRange : ByteArray := prog_6_method_55_code
def yX4_changedByRange : MethodName := ⟨RX4, "changedByRange", "(III)I"⟩
abbrev cX4_shadowedShare : ByteArray := prog_6_method_56_code
def yX4_shadowedShare : MethodName := ⟨RX4, "shadowedShare", "()F"⟩
abbrev cX4_meanHits : ByteArray := prog_6_method_57_code
def yX4_meanHits : MethodName := ⟨RX4, "meanHits", "()D"⟩
def RJx145de : String := "java/io/Serializable"
def TJx145de : u_T := fun k => match k with
  | _ => ("", "", "", false)
def tyJx145de : Nat → FieldType := fun k => match k with
  | _ => .int
abbrev wsJx145de0 : List Cond := u_ws RJx145de TJx145de 0
theorem nmJx145de : ∀ a, a < 0 → ∀ b, b < 0 → a ≠ b → (TJx145de a).2.1 ≠ (TJx145de b).2.1 := by decide +kernel
theorem tyJx145de_ok : ∀ k, k < 0 → parseFieldDescriptor (TJx145de k).2.2.1 = some (tyJx145de k) := by decide +kernel
def RJx00060 : String := "java/lang/ArrayIndexOutOfBoundsException"
def TJx00060 : u_T := fun k => match k with
  | 0 => ("java/lang/Throwable", "backtrace", "Ljava/lang/Object;", false)
  | 1 => ("java/lang/Throwable", "detailMessage", "Ljava/lang/String;", false)
  | 2 => ("java/lang/Throwable", "cause", "Ljava/lang/Throwable;", false)
  | 3 => ("java/lang/Throwable", "stackTrace", "[Ljava/lang/StackTraceElement;", false)
  | 4 => ("java/lang/Throwable", "depth", "I", false)
  | _ => ("java/lang/Throwable", "suppressedExceptions", "Ljava/util/List;", false)
def tyJx00060 : Nat → FieldType := fun k => match k with
  | 0 => .object "java/lang/Object"
  | 1 => .object "java/lang/String"
  | 2 => .object "java/lang/Throwable"
  | 3 => .array (.object "java/lang/StackTraceElement")
  | 4 => .int
  | _ => .object "java/util/List"
abbrev wsJx000600 : List Cond := u_ws RJx00060 TJx00060 6
theorem nmJx00060 : ∀ a, a < 6 → ∀ b, b < 6 → a ≠ b → (TJx00060 a).2.1 ≠ (TJx00060 b).2.1 := by decide +kernel
theorem tyJx00060_ok : ∀ k, k < 6 → parseFieldDescriptor (TJx00060 k).2.2.1 = some (tyJx00060 k) := by decide +kernel
abbrev cJx00060_init_a7421 : ByteArray := prog_9_method_2_code
def yJx00060_init_a7421 : MethodName := ⟨RJx00060, "<init>", "(Ljava/lang/String;)V"⟩
def RJ6 : String := "java/lang/Integer"
def TJ6 : u_T := fun k => match k with
  | _ => ("", "", "", false)
def tyJ6 : Nat → FieldType := fun k => match k with
  | _ => .int
abbrev wsJ60 : List Cond := u_ws RJ6 TJ6 0
theorem nmJ6 : ∀ a, a < 0 → ∀ b, b < 0 → a ≠ b → (TJ6 a).2.1 ≠ (TJ6 b).2.1 := by decide +kernel
theorem tyJ6_ok : ∀ k, k < 0 → parseFieldDescriptor (TJ6 k).2.2.1 = some (tyJ6 k) := by decide +kernel
abbrev cJ6_bitCount_0f7a4 : ByteArray := prog_14_method_49_code
def yJ6_bitCount_0f7a4 : MethodName := ⟨RJ6, "bitCount", "(I)I"⟩
def RJ9 : String := "java/lang/Math"
def TJ9 : u_T := fun k => match k with
  | _ => ("", "", "", false)
def tyJ9 : Nat → FieldType := fun k => match k with
  | _ => .int
abbrev wsJ90 : List Cond := u_ws RJ9 TJ9 0
theorem nmJ9 : ∀ a, a < 0 → ∀ b, b < 0 → a ≠ b → (TJ9 a).2.1 ≠ (TJ9 b).2.1 := by decide +kernel
theorem tyJ9_ok : ∀ k, k < 0 → parseFieldDescriptor (TJ9 k).2.2.1 = some (tyJ9 k) := by decide +kernel
abbrev cJ9_min_7cf53 : ByteArray := prog_15_method_69_code
def yJ9_min_7cf53 : MethodName := ⟨RJ9, "min", "(II)I"⟩
def RJ0 : String := "java/lang/String"
def TJ0 : u_T := fun k => match k with
  | 0 => ("java/lang/String", "value", "[B", true)
  | _ => ("java/lang/String", "coder", "B", true)
def tyJ0 : Nat → FieldType := fun k => match k with
  | 0 => .array .byte
  | _ => .byte
abbrev wsJ00 : List Cond := u_ws RJ0 TJ0 2
theorem nmJ0 : ∀ a, a < 2 → ∀ b, b < 2 → a ≠ b → (TJ0 a).2.1 ≠ (TJ0 b).2.1 := by decide +kernel
theorem tyJ0_ok : ∀ k, k < 2 → parseFieldDescriptor (TJ0 k).2.2.1 = some (tyJ0 k) := by decide +kernel
def RJ7 : String := "java/util/Arrays"
def TJ7 : u_T := fun k => match k with
  | _ => ("", "", "", false)
def tyJ7 : Nat → FieldType := fun k => match k with
  | _ => .int
abbrev wsJ70 : List Cond := u_ws RJ7 TJ7 0
theorem nmJ7 : ∀ a, a < 0 → ∀ b, b < 0 → a ≠ b → (TJ7 a).2.1 ≠ (TJ7 b).2.1 := by decide +kernel
theorem tyJ7_ok : ∀ k, k < 0 → parseFieldDescriptor (TJ7 k).2.2.1 = some (tyJ7 k) := by decide +kernel
abbrev cJ7_fill_53178 : ByteArray := prog_20_method_103_code
def yJ7_fill_53178 : MethodName := ⟨RJ7, "fill", "([II)V"⟩
def RL : String := "FilterRulesLaw"
abbrev cL_addObject : ByteArray := method_3_code
def yL_addObject : MethodName := ⟨RL, "addObject", "(LFilterRules;[J)I"⟩
abbrev cL_addRange : ByteArray := method_4_code
def yL_addRange : MethodName := ⟨RL, "addRange", "(LFilterRules;III[J)I"⟩
abbrev cL_removeRange : ByteArray := method_5_code
def yL_removeRange : MethodName := ⟨RL, "removeRange", "(LFilterRules;I[J)I"⟩
abbrev cL_addMember : ByteArray := method_6_code
def yL_addMember : MethodName := ⟨RL, "addMember", "(LFilterRules;II[J)I"⟩
abbrev cL_removeMember : ByteArray := method_7_code
def yL_removeMember : MethodName := ⟨RL, "removeMember", "(LFilterRules;II[J)I"⟩
abbrev cL_values : ByteArray := method_8_code
def yL_values : MethodName := ⟨RL, "values", "(LFilterRules;I[J)I"⟩
abbrev cL_hasValue : ByteArray := method_9_code
def yL_hasValue : MethodName := ⟨RL, "hasValue", "(LFilterRules;II[J)I"⟩
abbrev cL_users : ByteArray := method_10_code
def yL_users : MethodName := ⟨RL, "users", "(LFilterRules;I[J)I"⟩
abbrev cL_addRule : ByteArray := method_11_code
def yL_addRule : MethodName := ⟨RL, "addRule", "(LFilterRules;ICIIII[J)I"⟩
abbrev cL_removeRule : ByteArray := method_12_code
def yL_removeRule : MethodName := ⟨RL, "removeRule", "(LFilterRules;I[J)I"⟩
abbrev cL_setLastDay : ByteArray := method_13_code
def yL_setLastDay : MethodName := ⟨RL, "setLastDay", "(LFilterRules;II[J)I"⟩
abbrev cL_ruleAt : ByteArray := method_14_code
def yL_ruleAt : MethodName := ⟨RL, "ruleAt", "(LFilterRules;I[J)I"⟩
abbrev cL_isInForce : ByteArray := method_15_code
def yL_isInForce : MethodName := ⟨RL, "isInForce", "(LFilterRules;I[J)I"⟩
abbrev cL_expiring : ByteArray := method_16_code
def yL_expiring : MethodName := ⟨RL, "expiring", "(LFilterRules;II[J)I"⟩
abbrev cL_packet : ByteArray := method_17_code
def yL_packet : MethodName := ⟨RL, "packet", "(LFilterRules;III[J)I"⟩
abbrev cL_decider : ByteArray := method_18_code
def yL_decider : MethodName := ⟨RL, "decider", "(LFilterRules;III[J)I"⟩
abbrev cL_hits : ByteArray := method_19_code
def yL_hits : MethodName := ⟨RL, "hits", "(LFilterRules;I[J)I"⟩
abbrev cL_busyDays : ByteArray := method_20_code
def yL_busyDays : MethodName := ⟨RL, "busyDays", "(LFilterRules;I[J)I"⟩
abbrev cL_idleDays : ByteArray := method_21_code
def yL_idleDays : MethodName := ⟨RL, "idleDays", "(LFilterRules;I[J)I"⟩
abbrev cL_pass : ByteArray := method_22_code
def yL_pass : MethodName := ⟨RL, "pass", "(LFilterRules;I[J)I"⟩
abbrev cL_matched : ByteArray := method_23_code
def yL_matched : MethodName := ⟨RL, "matched", "(LFilterRules;I[J)I"⟩
abbrev cL_decided : ByteArray := method_24_code
def yL_decided : MethodName := ⟨RL, "decided", "(LFilterRules;I[J)I"⟩
abbrev cL_decidedBySamples : ByteArray := method_25_code
def yL_decidedBySamples : MethodName := ⟨RL, "decidedBySamples", "(LFilterRules;I[J)I"⟩
abbrev cL_isShadowed : ByteArray := method_26_code
def yL_isShadowed : MethodName := ⟨RL, "isShadowed", "(LFilterRules;I[J)I"⟩
abbrev cL_mainShadow : ByteArray := method_27_code
def yL_mainShadow : MethodName := ⟨RL, "mainShadow", "(LFilterRules;I[J)I"⟩
abbrev cL_changedByMove : ByteArray := method_28_code
def yL_changedByMove : MethodName := ⟨RL, "changedByMove", "(LFilterRules;II[J)I"⟩
abbrev cL_move : ByteArray := method_29_code
def yL_move : MethodName := ⟨RL, "move", "(LFilterRules;II[J)I"⟩
abbrev cL_changedByRange : ByteArray := method_30_code
def yL_changedByRange : MethodName := ⟨RL, "changedByRange", "(LFilterRules;III[J)I"⟩
abbrev cL_shadowedShare : ByteArray := method_31_code
def yL_shadowedShare : MethodName := ⟨RL, "shadowedShare", "(LFilterRules;[D)I"⟩
abbrev cL_meanHits : ByteArray := method_32_code
def yL_meanHits : MethodName := ⟨RL, "meanHits", "(LFilterRules;[D)I"⟩
abbrev cL_law : ByteArray := code
def yL_law : MethodName := ⟨RL, "law", "([I)Z"⟩
abbrev vwCl : List vw_C := [(RJ0, TJ0, 2), (RJx00060, TJx00060, 6), (RX0, TX0, 3), (RX1, TX1, 10), (RX2, TX2, 3), (RX3, TX3, 9), (RX4, TX4, 24)]
end
section
theorem dX0_init_0 : decode cX0_init 0 = .ok (.aload_n 0, 1) := by decide +kernel
theorem dX0_init_1 : decode cX0_init 1 = .ok (.invokespecial 3, 3) := by decide +kernel
theorem dX0_init_4 : decode cX0_init 4 = .ok (.aload_n 0, 1) := by decide +kernel
theorem dX0_init_5 : decode cX0_init 5 = .ok (.bipush 32, 2) := by decide +kernel
theorem dX0_init_7 : decode cX0_init 7 = .ok (.newarray .int, 2) := by decide +kernel
theorem dX0_init_9 : decode cX0_init 9 = .ok (.putfield 9, 3) := by decide +kernel
theorem dX0_init_12 : decode cX0_init 12 = .ok (.aload_n 0, 1) := by decide +kernel
theorem dX0_init_13 : decode cX0_init 13 = .ok (.bipush 32, 2) := by decide +kernel
theorem dX0_init_15 : decode cX0_init 15 = .ok (.newarray .int, 2) := by decide +kernel
theorem dX0_init_17 : decode cX0_init 17 = .ok (.putfield 15, 3) := by decide +kernel
theorem dX0_init_20 : decode cX0_init 20 = .ok (.return_, 1) := by decide +kernel
theorem dX0_put_0 : decode cX0_put 0 = .ok (.iconst 0, 1) := by decide +kernel
theorem dX0_put_1 : decode cX0_put 1 = .ok (.istore_n 2, 1) := by decide +kernel
theorem dX0_put_2 : decode cX0_put 2 = .ok (.iload_n 2, 1) := by decide +kernel
theorem dX0_put_3 : decode cX0_put 3 = .ok (.aload_n 0, 1) := by decide +kernel
theorem dX0_put_4 : decode cX0_put 4 = .ok (.getfield 18, 3) := by decide +kernel
theorem dX0_put_7 : decode cX0_put 7 = .ok (.if_icmp .ge 30, 3) := by decide +kernel
theorem dX0_put_10 : decode cX0_put 10 = .ok (.aload_n 0, 1) := by decide +kernel
theorem dX0_put_11 : decode cX0_put 11 = .ok (.getfield 9, 3) := by decide +kernel
theorem dX0_put_14 : decode cX0_put 14 = .ok (.iload_n 2, 1) := by decide +kernel
theorem dX0_put_15 : decode cX0_put 15 = .ok (.iaload, 1) := by decide +kernel
theorem dX0_put_16 : decode cX0_put 16 = .ok (.iload_n 1, 1) := by decide +kernel
theorem dX0_put_17 : decode cX0_put 17 = .ok (.if_icmp .ne 14, 3) := by decide +kernel
theorem dX0_put_20 : decode cX0_put 20 = .ok (.aload_n 0, 1) := by decide +kernel
theorem dX0_put_21 : decode cX0_put 21 = .ok (.getfield 15, 3) := by decide +kernel
theorem dX0_put_24 : decode cX0_put 24 = .ok (.iload_n 2, 1) := by decide +kernel
theorem dX0_put_25 : decode cX0_put 25 = .ok (.dup2, 1) := by decide +kernel
theorem dX0_put_26 : decode cX0_put 26 = .ok (.iaload, 1) := by decide +kernel
theorem dX0_put_27 : decode cX0_put 27 = .ok (.iconst 1, 1) := by decide +kernel
theorem dX0_put_28 : decode cX0_put 28 = .ok (.iadd, 1) := by decide +kernel
theorem dX0_put_29 : decode cX0_put 29 = .ok (.iastore, 1) := by decide +kernel
theorem dX0_put_30 : decode cX0_put 30 = .ok (.return_, 1) := by decide +kernel
theorem dX0_put_31 : decode cX0_put 31 = .ok (.iinc 2 1, 3) := by decide +kernel
theorem dX0_put_34 : decode cX0_put 34 = .ok (.goto (-32), 3) := by decide +kernel
theorem dX0_put_37 : decode cX0_put 37 = .ok (.aload_n 0, 1) := by decide +kernel
theorem dX0_put_38 : decode cX0_put 38 = .ok (.getfield 18, 3) := by decide +kernel
theorem dX0_put_41 : decode cX0_put 41 = .ok (.bipush 32, 2) := by decide +kernel
theorem dX0_put_43 : decode cX0_put 43 = .ok (.if_icmp .ge 33, 3) := by decide +kernel
theorem dX0_put_46 : decode cX0_put 46 = .ok (.aload_n 0, 1) := by decide +kernel
theorem dX0_put_47 : decode cX0_put 47 = .ok (.getfield 9, 3) := by decide +kernel
theorem dX0_put_50 : decode cX0_put 50 = .ok (.aload_n 0, 1) := by decide +kernel
theorem dX0_put_51 : decode cX0_put 51 = .ok (.getfield 18, 3) := by decide +kernel
theorem dX0_put_54 : decode cX0_put 54 = .ok (.iload_n 1, 1) := by decide +kernel
theorem dX0_put_55 : decode cX0_put 55 = .ok (.iastore, 1) := by decide +kernel
theorem dX0_put_56 : decode cX0_put 56 = .ok (.aload_n 0, 1) := by decide +kernel
theorem dX0_put_57 : decode cX0_put 57 = .ok (.getfield 15, 3) := by decide +kernel
theorem dX0_put_60 : decode cX0_put 60 = .ok (.aload_n 0, 1) := by decide +kernel
theorem dX0_put_61 : decode cX0_put 61 = .ok (.getfield 18, 3) := by decide +kernel
theorem dX0_put_64 : decode cX0_put 64 = .ok (.iconst 1, 1) := by decide +kernel
theorem dX0_put_65 : decode cX0_put 65 = .ok (.iastore, 1) := by decide +kernel
theorem dX0_put_66 : decode cX0_put 66 = .ok (.aload_n 0, 1) := by decide +kernel
theorem dX0_put_67 : decode cX0_put 67 = .ok (.dup, 1) := by decide +kernel
theorem dX0_put_68 : decode cX0_put 68 = .ok (.getfield 18, 3) := by decide +kernel
theorem dX0_put_71 : decode cX0_put 71 = .ok (.iconst 1, 1) := by decide +kernel
theorem dX0_put_72 : decode cX0_put 72 = .ok (.iadd, 1) := by decide +kernel
theorem dX0_put_73 : decode cX0_put 73 = .ok (.putfield 18, 3) := by decide +kernel
theorem dX0_put_76 : decode cX0_put 76 = .ok (.return_, 1) := by decide +kernel
theorem dX1_init_0 : decode cX1_init 0 = .ok (.aload_n 0, 1) := by decide +kernel
theorem dX1_init_1 : decode cX1_init 1 = .ok (.invokespecial 3, 3) := by decide +kernel
theorem dX1_init_4 : decode cX1_init 4 = .ok (.aload_n 0, 1) := by decide +kernel
theorem dX1_init_5 : decode cX1_init 5 = .ok (.iconst 3, 1) := by decide +kernel
theorem dX1_init_6 : decode cX1_init 6 = .ok (.newarray .int, 2) := by decide +kernel
theorem dX1_init_8 : decode cX1_init 8 = .ok (.putfield 9, 3) := by decide +kernel
theorem dX1_init_11 : decode cX1_init 11 = .ok (.aload_n 0, 1) := by decide +kernel
theorem dX1_init_12 : decode cX1_init 12 = .ok (.iconst 3, 1) := by decide +kernel
theorem dX1_init_13 : decode cX1_init 13 = .ok (.newarray .int, 2) := by decide +kernel
theorem dX1_init_15 : decode cX1_init 15 = .ok (.putfield 15, 3) := by decide +kernel
theorem dX1_init_18 : decode cX1_init 18 = .ok (.return_, 1) := by decide +kernel
theorem dX1_begin_0 : decode cX1_begin 0 = .ok (.aload_n 0, 1) := by decide +kernel
theorem dX1_begin_1 : decode cX1_begin 1 = .ok (.iload_n 1, 1) := by decide +kernel
theorem dX1_begin_2 : decode cX1_begin 2 = .ok (.putfield 18, 3) := by decide +kernel
theorem dX1_begin_5 : decode cX1_begin 5 = .ok (.aload_n 0, 1) := by decide +kernel
theorem dX1_begin_6 : decode cX1_begin 6 = .ok (.iload_n 2, 1) := by decide +kernel
theorem dX1_begin_7 : decode cX1_begin 7 = .ok (.putfield 22, 3) := by decide +kernel
theorem dX1_begin_10 : decode cX1_begin 10 = .ok (.aload_n 0, 1) := by decide +kernel
theorem dX1_begin_11 : decode cX1_begin 11 = .ok (.iload_n 3, 1) := by decide +kernel
theorem dX1_begin_12 : decode cX1_begin 12 = .ok (.putfield 26, 3) := by decide +kernel
theorem dX1_begin_15 : decode cX1_begin 15 = .ok (.aload_n 0, 1) := by decide +kernel
theorem dX1_begin_16 : decode cX1_begin 16 = .ok (.iconst (-1), 1) := by decide +kernel
theorem dX1_begin_17 : decode cX1_begin 17 = .ok (.putfield 29, 3) := by decide +kernel
theorem dX1_begin_20 : decode cX1_begin 20 = .ok (.aload_n 0, 1) := by decide +kernel
theorem dX1_begin_21 : decode cX1_begin 21 = .ok (.iload 4, 2) := by decide +kernel
theorem dX1_begin_23 : decode cX1_begin 23 = .ok (.putfield 32, 3) := by decide +kernel
theorem dX1_begin_26 : decode cX1_begin 26 = .ok (.aload_n 0, 1) := by decide +kernel
theorem dX1_begin_27 : decode cX1_begin 27 = .ok (.iconst 0, 1) := by decide +kernel
theorem dX1_begin_28 : decode cX1_begin 28 = .ok (.putfield 35, 3) := by decide +kernel
theorem dX1_begin_31 : decode cX1_begin 31 = .ok (.aload_n 0, 1) := by decide +kernel
theorem dX1_begin_32 : decode cX1_begin 32 = .ok (.iconst 0, 1) := by decide +kernel
theorem dX1_begin_33 : decode cX1_begin 33 = .ok (.putfield 38, 3) := by decide +kernel
theorem dX1_begin_36 : decode cX1_begin 36 = .ok (.aload_n 0, 1) := by decide +kernel
theorem dX1_begin_37 : decode cX1_begin 37 = .ok (.iconst (-1), 1) := by decide +kernel
theorem dX1_begin_38 : decode cX1_begin 38 = .ok (.putfield 41, 3) := by decide +kernel
theorem dX1_begin_41 : decode cX1_begin 41 = .ok (.return_, 1) := by decide +kernel
theorem dX1_hitOn_0 : decode cX1_hitOn 0 = .ok (.aload_n 0, 1) := by decide +kernel
theorem dX1_hitOn_1 : decode cX1_hitOn 1 = .ok (.getfield 41, 3) := by decide +kernel
theorem dX1_hitOn_4 : decode cX1_hitOn 4 = .ok (.iload_n 1, 1) := by decide +kernel
theorem dX1_hitOn_5 : decode cX1_hitOn 5 = .ok (.if_icmp .eq 13, 3) := by decide +kernel
theorem dX1_hitOn_8 : decode cX1_hitOn 8 = .ok (.aload_n 0, 1) := by decide +kernel
theorem dX1_hitOn_9 : decode cX1_hitOn 9 = .ok (.dup, 1) := by decide +kernel
theorem dX1_hitOn_10 : decode cX1_hitOn 10 = .ok (.getfield 38, 3) := by decide +kernel
theorem dX1_hitOn_13 : decode cX1_hitOn 13 = .ok (.iconst 1, 1) := by decide +kernel
theorem dX1_hitOn_14 : decode cX1_hitOn 14 = .ok (.iadd, 1) := by decide +kernel
theorem dX1_hitOn_15 : decode cX1_hitOn 15 = .ok (.putfield 38, 3) := by decide +kernel
theorem dX1_hitOn_18 : decode cX1_hitOn 18 = .ok (.aload_n 0, 1) := by decide +kernel
theorem dX1_hitOn_19 : decode cX1_hitOn 19 = .ok (.dup, 1) := by decide +kernel
theorem dX1_hitOn_20 : decode cX1_hitOn 20 = .ok (.getfield 35, 3) := by decide +kernel
theorem dX1_hitOn_23 : decode cX1_hitOn 23 = .ok (.iconst 1, 1) := by decide +kernel
theorem dX1_hitOn_24 : decode cX1_hitOn 24 = .ok (.iadd, 1) := by decide +kernel
theorem dX1_hitOn_25 : decode cX1_hitOn 25 = .ok (.putfield 35, 3) := by decide +kernel
theorem dX1_hitOn_28 : decode cX1_hitOn 28 = .ok (.aload_n 0, 1) := by decide +kernel
theorem dX1_hitOn_29 : decode cX1_hitOn 29 = .ok (.iload_n 1, 1) := by decide +kernel
theorem dX1_hitOn_30 : decode cX1_hitOn 30 = .ok (.putfield 41, 3) := by decide +kernel
theorem dX1_hitOn_33 : decode cX1_hitOn 33 = .ok (.return_, 1) := by decide +kernel
theorem dX1_lastsOn_0 : decode cX1_lastsOn 0 = .ok (.aload_n 0, 1) := by decide +kernel
theorem dX1_lastsOn_1 : decode cX1_lastsOn 1 = .ok (.getfield 29, 3) := by decide +kernel
theorem dX1_lastsOn_4 : decode cX1_lastsOn 4 = .ok (.iconst (-1), 1) := by decide +kernel
theorem dX1_lastsOn_5 : decode cX1_lastsOn 5 = .ok (.if_icmp .eq 11, 3) := by decide +kernel
theorem dX1_lastsOn_8 : decode cX1_lastsOn 8 = .ok (.iload_n 1, 1) := by decide +kernel
theorem dX1_lastsOn_9 : decode cX1_lastsOn 9 = .ok (.aload_n 0, 1) := by decide +kernel
theorem dX1_lastsOn_10 : decode cX1_lastsOn 10 = .ok (.getfield 29, 3) := by decide +kernel
theorem dX1_lastsOn_13 : decode cX1_lastsOn 13 = .ok (.if_icmp .gt 7, 3) := by decide +kernel
theorem dX1_lastsOn_16 : decode cX1_lastsOn 16 = .ok (.iconst 1, 1) := by decide +kernel
theorem dX1_lastsOn_17 : decode cX1_lastsOn 17 = .ok (.goto 4, 3) := by decide +kernel
theorem dX1_lastsOn_20 : decode cX1_lastsOn 20 = .ok (.iconst 0, 1) := by decide +kernel
theorem dX1_lastsOn_21 : decode cX1_lastsOn 21 = .ok (.ireturn, 1) := by decide +kernel
theorem dX1_matches_0 : decode cX1_matches 0 = .ok (.aload_n 0, 1) := by decide +kernel
theorem dX1_matches_1 : decode cX1_matches 1 = .ok (.getfield 15, 3) := by decide +kernel
theorem dX1_matches_4 : decode cX1_matches 4 = .ok (.iconst 0, 1) := by decide +kernel
theorem dX1_matches_5 : decode cX1_matches 5 = .ok (.iaload, 1) := by decide +kernel
theorem dX1_matches_6 : decode cX1_matches 6 = .ok (.iload_n 1, 1) := by decide +kernel
theorem dX1_matches_7 : decode cX1_matches 7 = .ok (.invokestatic 44, 3) := by decide +kernel
theorem dX1_matches_10 : decode cX1_matches 10 = .ok (.ifCond .eq 33, 3) := by decide +kernel
theorem dX1_matches_13 : decode cX1_matches 13 = .ok (.aload_n 0, 1) := by decide +kernel
theorem dX1_matches_14 : decode cX1_matches 14 = .ok (.getfield 15, 3) := by decide +kernel
theorem dX1_matches_17 : decode cX1_matches 17 = .ok (.iconst 1, 1) := by decide +kernel
theorem dX1_matches_18 : decode cX1_matches 18 = .ok (.iaload, 1) := by decide +kernel
theorem dX1_matches_19 : decode cX1_matches 19 = .ok (.iload_n 2, 1) := by decide +kernel
theorem dX1_matches_20 : decode cX1_matches 20 = .ok (.invokestatic 44, 3) := by decide +kernel
theorem dX1_matches_23 : decode cX1_matches 23 = .ok (.ifCond .eq 20, 3) := by decide +kernel
theorem dX1_matches_26 : decode cX1_matches 26 = .ok (.aload_n 0, 1) := by decide +kernel
theorem dX1_matches_27 : decode cX1_matches 27 = .ok (.getfield 15, 3) := by decide +kernel
theorem dX1_matches_30 : decode cX1_matches 30 = .ok (.iconst 2, 1) := by decide +kernel
theorem dX1_matches_31 : decode cX1_matches 31 = .ok (.iaload, 1) := by decide +kernel
theorem dX1_matches_32 : decode cX1_matches 32 = .ok (.iload_n 3, 1) := by decide +kernel
theorem dX1_matches_33 : decode cX1_matches 33 = .ok (.invokestatic 44, 3) := by decide +kernel
theorem dX1_matches_36 : decode cX1_matches 36 = .ok (.ifCond .eq 7, 3) := by decide +kernel
theorem dX1_matches_39 : decode cX1_matches 39 = .ok (.iconst 1, 1) := by decide +kernel
theorem dX1_matches_40 : decode cX1_matches 40 = .ok (.goto 4, 3) := by decide +kernel
theorem dX1_matches_43 : decode cX1_matches 43 = .ok (.iconst 0, 1) := by decide +kernel
theorem dX1_matches_44 : decode cX1_matches 44 = .ok (.ireturn, 1) := by decide +kernel
theorem dX2_init_0 : decode cX2_init 0 = .ok (.aload_n 0, 1) := by decide +kernel
theorem dX2_init_1 : decode cX2_init 1 = .ok (.invokespecial 3, 3) := by decide +kernel
theorem dX2_init_4 : decode cX2_init 4 = .ok (.aload_n 0, 1) := by decide +kernel
theorem dX2_init_5 : decode cX2_init 5 = .ok (.iconst 3, 1) := by decide +kernel
theorem dX2_init_6 : decode cX2_init 6 = .ok (.newarray .int, 2) := by decide +kernel
theorem dX2_init_8 : decode cX2_init 8 = .ok (.putfield 9, 3) := by decide +kernel
theorem dX2_init_11 : decode cX2_init 11 = .ok (.return_, 1) := by decide +kernel
theorem dX2_ownValues_0 : decode cX2_ownValues 0 = .ok (.iconst 0, 1) := by decide +kernel
theorem dX2_ownValues_1 : decode cX2_ownValues 1 = .ok (.istore_n 1, 1) := by decide +kernel
theorem dX2_ownValues_2 : decode cX2_ownValues 2 = .ok (.iconst 0, 1) := by decide +kernel
theorem dX2_ownValues_3 : decode cX2_ownValues 3 = .ok (.istore_n 2, 1) := by decide +kernel
theorem dX2_ownValues_4 : decode cX2_ownValues 4 = .ok (.iload_n 2, 1) := by decide +kernel
theorem dX2_ownValues_5 : decode cX2_ownValues 5 = .ok (.aload_n 0, 1) := by decide +kernel
theorem dX2_ownValues_6 : decode cX2_ownValues 6 = .ok (.getfield 15, 3) := by decide +kernel
theorem dX2_ownValues_9 : decode cX2_ownValues 9 = .ok (.if_icmp .ge 18, 3) := by decide +kernel
theorem dX2_ownValues_12 : decode cX2_ownValues 12 = .ok (.iload_n 1, 1) := by decide +kernel
theorem dX2_ownValues_13 : decode cX2_ownValues 13 = .ok (.aload_n 0, 1) := by decide +kernel
theorem dX2_ownValues_14 : decode cX2_ownValues 14 = .ok (.getfield 9, 3) := by decide +kernel
theorem dX2_ownValues_17 : decode cX2_ownValues 17 = .ok (.iload_n 2, 1) := by decide +kernel
theorem dX2_ownValues_18 : decode cX2_ownValues 18 = .ok (.iaload, 1) := by decide +kernel
theorem dX2_ownValues_19 : decode cX2_ownValues 19 = .ok (.ior, 1) := by decide +kernel
theorem dX2_ownValues_20 : decode cX2_ownValues 20 = .ok (.istore_n 1, 1) := by decide +kernel
theorem dX2_ownValues_21 : decode cX2_ownValues 21 = .ok (.iinc 2 1, 3) := by decide +kernel
theorem dX2_ownValues_24 : decode cX2_ownValues 24 = .ok (.goto (-20), 3) := by decide +kernel
theorem dX2_ownValues_27 : decode cX2_ownValues 27 = .ok (.iload_n 1, 1) := by decide +kernel
theorem dX2_ownValues_28 : decode cX2_ownValues 28 = .ok (.ireturn, 1) := by decide +kernel
theorem dX3_init_0 : decode cX3_init 0 = .ok (.aload_n 0, 1) := by decide +kernel
theorem dX3_init_1 : decode cX3_init 1 = .ok (.invokespecial 3, 3) := by decide +kernel
theorem dX3_init_4 : decode cX3_init 4 = .ok (.aload_n 0, 1) := by decide +kernel
theorem dX3_init_5 : decode cX3_init 5 = .ok (.bipush 8, 2) := by decide +kernel
theorem dX3_init_7 : decode cX3_init 7 = .ok (.anewarray 9, 3) := by decide +kernel
theorem dX3_init_10 : decode cX3_init 10 = .ok (.putfield 11, 3) := by decide +kernel
theorem dX3_init_13 : decode cX3_init 13 = .ok (.aload_n 0, 1) := by decide +kernel
theorem dX3_init_14 : decode cX3_init 14 = .ok (.bipush 8, 2) := by decide +kernel
theorem dX3_init_16 : decode cX3_init 16 = .ok (.anewarray 15, 3) := by decide +kernel
theorem dX3_init_19 : decode cX3_init 19 = .ok (.putfield 17, 3) := by decide +kernel
theorem dX3_init_22 : decode cX3_init 22 = .ok (.aload_n 0, 1) := by decide +kernel
theorem dX3_init_23 : decode cX3_init 23 = .ok (.iconst 3, 1) := by decide +kernel
theorem dX3_init_24 : decode cX3_init 24 = .ok (.anewarray 21, 3) := by decide +kernel
theorem dX3_init_27 : decode cX3_init 27 = .ok (.putfield 23, 3) := by decide +kernel
theorem dX3_init_30 : decode cX3_init 30 = .ok (.aload_n 0, 1) := by decide +kernel
theorem dX3_init_31 : decode cX3_init 31 = .ok (.bipush 32, 2) := by decide +kernel
theorem dX3_init_33 : decode cX3_init 33 = .ok (.newarray .int, 2) := by decide +kernel
theorem dX3_init_35 : decode cX3_init 35 = .ok (.putfield 27, 3) := by decide +kernel
theorem dX3_init_38 : decode cX3_init 38 = .ok (.aload_n 0, 1) := by decide +kernel
theorem dX3_init_39 : decode cX3_init 39 = .ok (.bipush 9, 2) := by decide +kernel
theorem dX3_init_41 : decode cX3_init 41 = .ok (.bipush 9, 2) := by decide +kernel
theorem dX3_init_43 : decode cX3_init 43 = .ok (.multianewarray 31 2, 4) := by decide +kernel
theorem dX3_init_47 : decode cX3_init 47 = .ok (.putfield 33, 3) := by decide +kernel
theorem dX3_init_50 : decode cX3_init 50 = .ok (.iconst 0, 1) := by decide +kernel
theorem dX3_init_51 : decode cX3_init 51 = .ok (.istore_n 1, 1) := by decide +kernel
theorem dX3_init_52 : decode cX3_init 52 = .ok (.iload_n 1, 1) := by decide +kernel
theorem dX3_init_53 : decode cX3_init 53 = .ok (.bipush 8, 2) := by decide +kernel
theorem dX3_init_55 : decode cX3_init 55 = .ok (.if_icmp .ge 22, 3) := by decide +kernel
theorem dX3_init_58 : decode cX3_init 58 = .ok (.aload_n 0, 1) := by decide +kernel
theorem dX3_init_59 : decode cX3_init 59 = .ok (.getfield 11, 3) := by decide +kernel
theorem dX3_init_62 : decode cX3_init 62 = .ok (.iload_n 1, 1) := by decide +kernel
theorem dX3_init_63 : decode cX3_init 63 = .ok (.new 9, 3) := by decide +kernel
theorem dX3_init_66 : decode cX3_init 66 = .ok (.dup, 1) := by decide +kernel
theorem dX3_init_67 : decode cX3_init 67 = .ok (.invokespecial 36, 3) := by decide +kernel
theorem dX3_init_70 : decode cX3_init 70 = .ok (.aastore, 1) := by decide +kernel
theorem dX3_init_71 : decode cX3_init 71 = .ok (.iinc 1 1, 3) := by decide +kernel
theorem dX3_init_74 : decode cX3_init 74 = .ok (.goto (-22), 3) := by decide +kernel
theorem dX3_init_77 : decode cX3_init 77 = .ok (.iconst 0, 1) := by decide +kernel
theorem dX3_init_78 : decode cX3_init 78 = .ok (.istore_n 1, 1) := by decide +kernel
theorem dX3_init_79 : decode cX3_init 79 = .ok (.iload_n 1, 1) := by decide +kernel
theorem dX3_init_80 : decode cX3_init 80 = .ok (.bipush 8, 2) := by decide +kernel
theorem dX3_init_82 : decode cX3_init 82 = .ok (.if_icmp .ge 22, 3) := by decide +kernel
theorem dX3_init_85 : decode cX3_init 85 = .ok (.aload_n 0, 1) := by decide +kernel
theorem dX3_init_86 : decode cX3_init 86 = .ok (.getfield 17, 3) := by decide +kernel
theorem dX3_init_89 : decode cX3_init 89 = .ok (.iload_n 1, 1) := by decide +kernel
theorem dX3_init_90 : decode cX3_init 90 = .ok (.new 15, 3) := by decide +kernel
theorem dX3_init_93 : decode cX3_init 93 = .ok (.dup, 1) := by decide +kernel
theorem dX3_init_94 : decode cX3_init 94 = .ok (.invokespecial 37, 3) := by decide +kernel
theorem dX3_init_97 : decode cX3_init 97 = .ok (.aastore, 1) := by decide +kernel
theorem dX3_init_98 : decode cX3_init 98 = .ok (.iinc 1 1, 3) := by decide +kernel
theorem dX3_init_101 : decode cX3_init 101 = .ok (.goto (-22), 3) := by decide +kernel
theorem dX3_init_104 : decode cX3_init 104 = .ok (.iconst 0, 1) := by decide +kernel
theorem dX3_init_105 : decode cX3_init 105 = .ok (.istore_n 1, 1) := by decide +kernel
theorem dX3_init_106 : decode cX3_init 106 = .ok (.iload_n 1, 1) := by decide +kernel
theorem dX3_init_107 : decode cX3_init 107 = .ok (.iconst 3, 1) := by decide +kernel
theorem dX3_init_108 : decode cX3_init 108 = .ok (.if_icmp .ge 22, 3) := by decide +kernel
theorem dX3_init_111 : decode cX3_init 111 = .ok (.aload_n 0, 1) := by decide +kernel
theorem dX3_init_112 : decode cX3_init 112 = .ok (.getfield 23, 3) := by decide +kernel
theorem dX3_init_115 : decode cX3_init 115 = .ok (.iload_n 1, 1) := by decide +kernel
theorem dX3_init_116 : decode cX3_init 116 = .ok (.new 21, 3) := by decide +kernel
theorem dX3_init_119 : decode cX3_init 119 = .ok (.dup, 1) := by decide +kernel
theorem dX3_init_120 : decode cX3_init 120 = .ok (.invokespecial 38, 3) := by decide +kernel
theorem dX3_init_123 : decode cX3_init 123 = .ok (.aastore, 1) := by decide +kernel
theorem dX3_init_124 : decode cX3_init 124 = .ok (.iinc 1 1, 3) := by decide +kernel
theorem dX3_init_127 : decode cX3_init 127 = .ok (.goto (-21), 3) := by decide +kernel
theorem dX3_init_130 : decode cX3_init 130 = .ok (.return_, 1) := by decide +kernel
theorem dX3_addObject_0 : decode cX3_addObject 0 = .ok (.aload_n 0, 1) := by decide +kernel
theorem dX3_addObject_1 : decode cX3_addObject 1 = .ok (.getfield 39, 3) := by decide +kernel
theorem dX3_addObject_4 : decode cX3_addObject 4 = .ok (.bipush 8, 2) := by decide +kernel
theorem dX3_addObject_6 : decode cX3_addObject 6 = .ok (.if_icmp .lt 13, 3) := by decide +kernel
theorem dX3_addObject_9 : decode cX3_addObject 9 = .ok (.new 43, 3) := by decide +kernel
theorem dX3_addObject_12 : decode cX3_addObject 12 = .ok (.dup, 1) := by decide +kernel
theorem dX3_addObject_13 : decode cX3_addObject 13 = .ok (.ldc 45, 2) := by decide +kernel
theorem dX3_addObject_15 : decode cX3_addObject 15 = .ok (.invokespecial 47, 3) := by decide +kernel
theorem dX3_addObject_18 : decode cX3_addObject 18 = .ok (.athrow, 1) := by decide +kernel
theorem dX3_addObject_19 : decode cX3_addObject 19 = .ok (.aload_n 0, 1) := by decide +kernel
theorem dX3_addObject_20 : decode cX3_addObject 20 = .ok (.dup, 1) := by decide +kernel
theorem dX3_addObject_21 : decode cX3_addObject 21 = .ok (.getfield 39, 3) := by decide +kernel
theorem dX3_addObject_24 : decode cX3_addObject 24 = .ok (.iconst 1, 1) := by decide +kernel
theorem dX3_addObject_25 : decode cX3_addObject 25 = .ok (.iadd, 1) := by decide +kernel
theorem dX3_addObject_26 : decode cX3_addObject 26 = .ok (.putfield 39, 3) := by decide +kernel
theorem dX3_addObject_29 : decode cX3_addObject 29 = .ok (.aload_n 0, 1) := by decide +kernel
theorem dX3_addObject_30 : decode cX3_addObject 30 = .ok (.getfield 39, 3) := by decide +kernel
theorem dX3_addObject_33 : decode cX3_addObject 33 = .ok (.iconst 1, 1) := by decide +kernel
theorem dX3_addObject_34 : decode cX3_addObject 34 = .ok (.isub, 1) := by decide +kernel
theorem dX3_addObject_35 : decode cX3_addObject 35 = .ok (.ireturn, 1) := by decide +kernel
theorem dX3_addRange_0 : decode cX3_addRange 0 = .ok (.aload_n 0, 1) := by decide +kernel
theorem dX3_addRange_1 : decode cX3_addRange 1 = .ok (.iload_n 1, 1) := by decide +kernel
theorem dX3_addRange_2 : decode cX3_addRange 2 = .ok (.invokevirtual 50, 3) := by decide +kernel
theorem dX3_addRange_5 : decode cX3_addRange 5 = .ok (.iload_n 2, 1) := by decide +kernel
theorem dX3_addRange_6 : decode cX3_addRange 6 = .ok (.iload_n 3, 1) := by decide +kernel
theorem dX3_addRange_7 : decode cX3_addRange 7 = .ok (.invokestatic 54, 3) := by decide +kernel
theorem dX3_addRange_10 : decode cX3_addRange 10 = .ok (.aload_n 0, 1) := by decide +kernel
theorem dX3_addRange_11 : decode cX3_addRange 11 = .ok (.getfield 11, 3) := by decide +kernel
theorem dX3_addRange_14 : decode cX3_addRange 14 = .ok (.iload_n 1, 1) := by decide +kernel
theorem dX3_addRange_15 : decode cX3_addRange 15 = .ok (.aaload, 1) := by decide +kernel
theorem dX3_addRange_16 : decode cX3_addRange 16 = .ok (.astore 4, 2) := by decide +kernel
theorem dX3_addRange_18 : decode cX3_addRange 18 = .ok (.aload 4, 2) := by decide +kernel
theorem dX3_addRange_20 : decode cX3_addRange 20 = .ok (.getfield 58, 3) := by decide +kernel
theorem dX3_addRange_23 : decode cX3_addRange 23 = .ok (.iconst 3, 1) := by decide +kernel
theorem dX3_addRange_24 : decode cX3_addRange 24 = .ok (.if_icmp .lt 13, 3) := by decide +kernel
theorem dX3_addRange_27 : decode cX3_addRange 27 = .ok (.new 43, 3) := by decide +kernel
theorem dX3_addRange_30 : decode cX3_addRange 30 = .ok (.dup, 1) := by decide +kernel
theorem dX3_addRange_31 : decode cX3_addRange 31 = .ok (.ldc 61, 2) := by decide +kernel
theorem dX3_addRange_33 : decode cX3_addRange 33 = .ok (.invokespecial 47, 3) := by decide +kernel
theorem dX3_addRange_36 : decode cX3_addRange 36 = .ok (.athrow, 1) := by decide +kernel
theorem dX3_addRange_37 : decode cX3_addRange 37 = .ok (.aload 4, 2) := by decide +kernel
theorem dX3_addRange_39 : decode cX3_addRange 39 = .ok (.getfield 63, 3) := by decide +kernel
theorem dX3_addRange_42 : decode cX3_addRange 42 = .ok (.aload 4, 2) := by decide +kernel
theorem dX3_addRange_44 : decode cX3_addRange 44 = .ok (.getfield 58, 3) := by decide +kernel
theorem dX3_addRange_47 : decode cX3_addRange 47 = .ok (.iload_n 2, 1) := by decide +kernel
theorem dX3_addRange_48 : decode cX3_addRange 48 = .ok (.iload_n 3, 1) := by decide +kernel
theorem dX3_addRange_49 : decode cX3_addRange 49 = .ok (.invokestatic 66, 3) := by decide +kernel
theorem dX3_addRange_52 : decode cX3_addRange 52 = .ok (.iastore, 1) := by decide +kernel
theorem dX3_addRange_53 : decode cX3_addRange 53 = .ok (.aload 4, 2) := by decide +kernel
theorem dX3_addRange_55 : decode cX3_addRange 55 = .ok (.dup, 1) := by decide +kernel
theorem dX3_addRange_56 : decode cX3_addRange 56 = .ok (.getfield 58, 3) := by decide +kernel
theorem dX3_addRange_59 : decode cX3_addRange 59 = .ok (.iconst 1, 1) := by decide +kernel
theorem dX3_addRange_60 : decode cX3_addRange 60 = .ok (.iadd, 1) := by decide +kernel
theorem dX3_addRange_61 : decode cX3_addRange 61 = .ok (.putfield 58, 3) := by decide +kernel
theorem dX3_addRange_64 : decode cX3_addRange 64 = .ok (.aload_n 0, 1) := by decide +kernel
theorem dX3_addRange_65 : decode cX3_addRange 65 = .ok (.invokevirtual 70, 3) := by decide +kernel
theorem dX3_addRange_68 : decode cX3_addRange 68 = .ok (.aload 4, 2) := by decide +kernel
theorem dX3_addRange_70 : decode cX3_addRange 70 = .ok (.getfield 58, 3) := by decide +kernel
theorem dX3_addRange_73 : decode cX3_addRange 73 = .ok (.ireturn, 1) := by decide +kernel
theorem dX3_removeRange_0 : decode cX3_removeRange 0 = .ok (.aload_n 0, 1) := by decide +kernel
theorem dX3_removeRange_1 : decode cX3_removeRange 1 = .ok (.iload_n 1, 1) := by decide +kernel
theorem dX3_removeRange_2 : decode cX3_removeRange 2 = .ok (.invokevirtual 50, 3) := by decide +kernel
theorem dX3_removeRange_5 : decode cX3_removeRange 5 = .ok (.aload_n 0, 1) := by decide +kernel
theorem dX3_removeRange_6 : decode cX3_removeRange 6 = .ok (.getfield 11, 3) := by decide +kernel
theorem dX3_removeRange_9 : decode cX3_removeRange 9 = .ok (.iload_n 1, 1) := by decide +kernel
theorem dX3_removeRange_10 : decode cX3_removeRange 10 = .ok (.aaload, 1) := by decide +kernel
theorem dX3_removeRange_11 : decode cX3_removeRange 11 = .ok (.astore_n 2, 1) := by decide +kernel
theorem dX3_removeRange_12 : decode cX3_removeRange 12 = .ok (.aload_n 2, 1) := by decide +kernel
theorem dX3_removeRange_13 : decode cX3_removeRange 13 = .ok (.getfield 58, 3) := by decide +kernel
theorem dX3_removeRange_16 : decode cX3_removeRange 16 = .ok (.ifCond .gt 13, 3) := by decide +kernel
theorem dX3_removeRange_19 : decode cX3_removeRange 19 = .ok (.new 43, 3) := by decide +kernel
theorem dX3_removeRange_22 : decode cX3_removeRange 22 = .ok (.dup, 1) := by decide +kernel
theorem dX3_removeRange_23 : decode cX3_removeRange 23 = .ok (.ldc 73, 2) := by decide +kernel
theorem dX3_removeRange_25 : decode cX3_removeRange 25 = .ok (.invokespecial 47, 3) := by decide +kernel
theorem dX3_removeRange_28 : decode cX3_removeRange 28 = .ok (.athrow, 1) := by decide +kernel
theorem dX3_removeRange_29 : decode cX3_removeRange 29 = .ok (.aload_n 2, 1) := by decide +kernel
theorem dX3_removeRange_30 : decode cX3_removeRange 30 = .ok (.dup, 1) := by decide +kernel
theorem dX3_removeRange_31 : decode cX3_removeRange 31 = .ok (.getfield 58, 3) := by decide +kernel
theorem dX3_removeRange_34 : decode cX3_removeRange 34 = .ok (.iconst 1, 1) := by decide +kernel
theorem dX3_removeRange_35 : decode cX3_removeRange 35 = .ok (.isub, 1) := by decide +kernel
theorem dX3_removeRange_36 : decode cX3_removeRange 36 = .ok (.putfield 58, 3) := by decide +kernel
theorem dX3_removeRange_39 : decode cX3_removeRange 39 = .ok (.aload_n 0, 1) := by decide +kernel
theorem dX3_removeRange_40 : decode cX3_removeRange 40 = .ok (.invokevirtual 70, 3) := by decide +kernel
theorem dX3_removeRange_43 : decode cX3_removeRange 43 = .ok (.aload_n 2, 1) := by decide +kernel
theorem dX3_removeRange_44 : decode cX3_removeRange 44 = .ok (.getfield 58, 3) := by decide +kernel
theorem dX3_removeRange_47 : decode cX3_removeRange 47 = .ok (.ireturn, 1) := by decide +kernel
theorem dX3_addMember_0 : decode cX3_addMember 0 = .ok (.aload_n 0, 1) := by decide +kernel
theorem dX3_addMember_1 : decode cX3_addMember 1 = .ok (.iload_n 1, 1) := by decide +kernel
theorem dX3_addMember_2 : decode cX3_addMember 2 = .ok (.invokevirtual 50, 3) := by decide +kernel
theorem dX3_addMember_5 : decode cX3_addMember 5 = .ok (.aload_n 0, 1) := by decide +kernel
theorem dX3_addMember_6 : decode cX3_addMember 6 = .ok (.iload_n 2, 1) := by decide +kernel
theorem dX3_addMember_7 : decode cX3_addMember 7 = .ok (.invokevirtual 50, 3) := by decide +kernel
theorem dX3_addMember_10 : decode cX3_addMember 10 = .ok (.aload_n 0, 1) := by decide +kernel
theorem dX3_addMember_11 : decode cX3_addMember 11 = .ok (.getfield 11, 3) := by decide +kernel
theorem dX3_addMember_14 : decode cX3_addMember 14 = .ok (.iload_n 1, 1) := by decide +kernel
theorem dX3_addMember_15 : decode cX3_addMember 15 = .ok (.aaload, 1) := by decide +kernel
theorem dX3_addMember_16 : decode cX3_addMember 16 = .ok (.astore_n 3, 1) := by decide +kernel
theorem dX3_addMember_17 : decode cX3_addMember 17 = .ok (.iload_n 1, 1) := by decide +kernel
theorem dX3_addMember_18 : decode cX3_addMember 18 = .ok (.iload_n 2, 1) := by decide +kernel
theorem dX3_addMember_19 : decode cX3_addMember 19 = .ok (.if_icmp .eq 14, 3) := by decide +kernel
theorem dX3_addMember_22 : decode cX3_addMember 22 = .ok (.aload_n 3, 1) := by decide +kernel
theorem dX3_addMember_23 : decode cX3_addMember 23 = .ok (.getfield 75, 3) := by decide +kernel
theorem dX3_addMember_26 : decode cX3_addMember 26 = .ok (.iload_n 2, 1) := by decide +kernel
theorem dX3_addMember_27 : decode cX3_addMember 27 = .ok (.invokestatic 78, 3) := by decide +kernel
theorem dX3_addMember_30 : decode cX3_addMember 30 = .ok (.ifCond .eq 13, 3) := by decide +kernel
theorem dX3_addMember_33 : decode cX3_addMember 33 = .ok (.new 82, 3) := by decide +kernel
theorem dX3_addMember_36 : decode cX3_addMember 36 = .ok (.dup, 1) := by decide +kernel
theorem dX3_addMember_37 : decode cX3_addMember 37 = .ok (.ldc 84, 2) := by decide +kernel
theorem dX3_addMember_39 : decode cX3_addMember 39 = .ok (.invokespecial 86, 3) := by decide +kernel
theorem dX3_addMember_42 : decode cX3_addMember 42 = .ok (.athrow, 1) := by decide +kernel
theorem dX3_addMember_43 : decode cX3_addMember 43 = .ok (.aload_n 0, 1) := by decide +kernel
theorem dX3_addMember_44 : decode cX3_addMember 44 = .ok (.getfield 11, 3) := by decide +kernel
theorem dX3_addMember_47 : decode cX3_addMember 47 = .ok (.iload_n 2, 1) := by decide +kernel
theorem dX3_addMember_48 : decode cX3_addMember 48 = .ok (.iload_n 1, 1) := by decide +kernel
theorem dX3_addMember_49 : decode cX3_addMember 49 = .ok (.iconst 0, 1) := by decide +kernel
theorem dX3_addMember_50 : decode cX3_addMember 50 = .ok (.invokestatic 87, 3) := by decide +kernel
theorem dX3_addMember_53 : decode cX3_addMember 53 = .ok (.ifCond .eq 13, 3) := by decide +kernel
theorem dX3_addMember_56 : decode cX3_addMember 56 = .ok (.new 91, 3) := by decide +kernel
theorem dX3_addMember_59 : decode cX3_addMember 59 = .ok (.dup, 1) := by decide +kernel
theorem dX3_addMember_60 : decode cX3_addMember 60 = .ok (.ldc 93, 2) := by decide +kernel
theorem dX3_addMember_62 : decode cX3_addMember 62 = .ok (.invokespecial 95, 3) := by decide +kernel
theorem dX3_addMember_65 : decode cX3_addMember 65 = .ok (.athrow, 1) := by decide +kernel
theorem dX3_addMember_66 : decode cX3_addMember 66 = .ok (.aload_n 3, 1) := by decide +kernel
theorem dX3_addMember_67 : decode cX3_addMember 67 = .ok (.getfield 75, 3) := by decide +kernel
theorem dX3_addMember_70 : decode cX3_addMember 70 = .ok (.invokestatic 96, 3) := by decide +kernel
theorem dX3_addMember_73 : decode cX3_addMember 73 = .ok (.iconst 2, 1) := by decide +kernel
theorem dX3_addMember_74 : decode cX3_addMember 74 = .ok (.if_icmp .lt 13, 3) := by decide +kernel
theorem dX3_addMember_77 : decode cX3_addMember 77 = .ok (.new 43, 3) := by decide +kernel
theorem dX3_addMember_80 : decode cX3_addMember 80 = .ok (.dup, 1) := by decide +kernel
theorem dX3_addMember_81 : decode cX3_addMember 81 = .ok (.ldc 102, 2) := by decide +kernel
theorem dX3_addMember_83 : decode cX3_addMember 83 = .ok (.invokespecial 47, 3) := by decide +kernel
theorem dX3_addMember_86 : decode cX3_addMember 86 = .ok (.athrow, 1) := by decide +kernel
theorem dX3_addMember_87 : decode cX3_addMember 87 = .ok (.aload_n 3, 1) := by decide +kernel
theorem dX3_addMember_88 : decode cX3_addMember 88 = .ok (.dup, 1) := by decide +kernel
theorem dX3_addMember_89 : decode cX3_addMember 89 = .ok (.getfield 75, 3) := by decide +kernel
theorem dX3_addMember_92 : decode cX3_addMember 92 = .ok (.iconst 1, 1) := by decide +kernel
theorem dX3_addMember_93 : decode cX3_addMember 93 = .ok (.iload_n 2, 1) := by decide +kernel
theorem dX3_addMember_94 : decode cX3_addMember 94 = .ok (.ishl, 1) := by decide +kernel
theorem dX3_addMember_95 : decode cX3_addMember 95 = .ok (.ior, 1) := by decide +kernel
theorem dX3_addMember_96 : decode cX3_addMember 96 = .ok (.putfield 75, 3) := by decide +kernel
theorem dX3_addMember_99 : decode cX3_addMember 99 = .ok (.aload_n 0, 1) := by decide +kernel
theorem dX3_addMember_100 : decode cX3_addMember 100 = .ok (.invokevirtual 70, 3) := by decide +kernel
theorem dX3_addMember_103 : decode cX3_addMember 103 = .ok (.aload_n 3, 1) := by decide +kernel
theorem dX3_addMember_104 : decode cX3_addMember 104 = .ok (.getfield 75, 3) := by decide +kernel
theorem dX3_addMember_107 : decode cX3_addMember 107 = .ok (.invokestatic 96, 3) := by decide +kernel
theorem dX3_addMember_110 : decode cX3_addMember 110 = .ok (.ireturn, 1) := by decide +kernel
theorem dX3_removeMember_0 : decode cX3_removeMember 0 = .ok (.aload_n 0, 1) := by decide +kernel
theorem dX3_removeMember_1 : decode cX3_removeMember 1 = .ok (.iload_n 1, 1) := by decide +kernel
theorem dX3_removeMember_2 : decode cX3_removeMember 2 = .ok (.invokevirtual 50, 3) := by decide +kernel
theorem dX3_removeMember_5 : decode cX3_removeMember 5 = .ok (.aload_n 0, 1) := by decide +kernel
theorem dX3_removeMember_6 : decode cX3_removeMember 6 = .ok (.iload_n 2, 1) := by decide +kernel
theorem dX3_removeMember_7 : decode cX3_removeMember 7 = .ok (.invokevirtual 50, 3) := by decide +kernel
theorem dX3_removeMember_10 : decode cX3_removeMember 10 = .ok (.aload_n 0, 1) := by decide +kernel
theorem dX3_removeMember_11 : decode cX3_removeMember 11 = .ok (.getfield 11, 3) := by decide +kernel
theorem dX3_removeMember_14 : decode cX3_removeMember 14 = .ok (.iload_n 1, 1) := by decide +kernel
theorem dX3_removeMember_15 : decode cX3_removeMember 15 = .ok (.aaload, 1) := by decide +kernel
theorem dX3_removeMember_16 : decode cX3_removeMember 16 = .ok (.astore_n 3, 1) := by decide +kernel
theorem dX3_removeMember_17 : decode cX3_removeMember 17 = .ok (.aload_n 3, 1) := by decide +kernel
theorem dX3_removeMember_18 : decode cX3_removeMember 18 = .ok (.getfield 75, 3) := by decide +kernel
theorem dX3_removeMember_21 : decode cX3_removeMember 21 = .ok (.iload_n 2, 1) := by decide +kernel
theorem dX3_removeMember_22 : decode cX3_removeMember 22 = .ok (.invokestatic 78, 3) := by decide +kernel
theorem dX3_removeMember_25 : decode cX3_removeMember 25 = .ok (.ifCond .ne 13, 3) := by decide +kernel
theorem dX3_removeMember_28 : decode cX3_removeMember 28 = .ok (.new 104, 3) := by decide +kernel
theorem dX3_removeMember_31 : decode cX3_removeMember 31 = .ok (.dup, 1) := by decide +kernel
theorem dX3_removeMember_32 : decode cX3_removeMember 32 = .ok (.ldc 106, 2) := by decide +kernel
theorem dX3_removeMember_34 : decode cX3_removeMember 34 = .ok (.invokespecial 108, 3) := by decide +kernel
theorem dX3_removeMember_37 : decode cX3_removeMember 37 = .ok (.athrow, 1) := by decide +kernel
theorem dX3_removeMember_38 : decode cX3_removeMember 38 = .ok (.aload_n 3, 1) := by decide +kernel
theorem dX3_removeMember_39 : decode cX3_removeMember 39 = .ok (.dup, 1) := by decide +kernel
theorem dX3_removeMember_40 : decode cX3_removeMember 40 = .ok (.getfield 75, 3) := by decide +kernel
theorem dX3_removeMember_43 : decode cX3_removeMember 43 = .ok (.iconst 1, 1) := by decide +kernel
theorem dX3_removeMember_44 : decode cX3_removeMember 44 = .ok (.iload_n 2, 1) := by decide +kernel
theorem dX3_removeMember_45 : decode cX3_removeMember 45 = .ok (.ishl, 1) := by decide +kernel
theorem dX3_removeMember_46 : decode cX3_removeMember 46 = .ok (.iconst (-1), 1) := by decide +kernel
theorem dX3_removeMember_47 : decode cX3_removeMember 47 = .ok (.ixor, 1) := by decide +kernel
theorem dX3_removeMember_48 : decode cX3_removeMember 48 = .ok (.iand, 1) := by decide +kernel
theorem dX3_removeMember_49 : decode cX3_removeMember 49 = .ok (.putfield 75, 3) := by decide +kernel
theorem dX3_removeMember_52 : decode cX3_removeMember 52 = .ok (.aload_n 0, 1) := by decide +kernel
theorem dX3_removeMember_53 : decode cX3_removeMember 53 = .ok (.invokevirtual 70, 3) := by decide +kernel
theorem dX3_removeMember_56 : decode cX3_removeMember 56 = .ok (.aload_n 3, 1) := by decide +kernel
theorem dX3_removeMember_57 : decode cX3_removeMember 57 = .ok (.getfield 75, 3) := by decide +kernel
theorem dX3_removeMember_60 : decode cX3_removeMember 60 = .ok (.invokestatic 96, 3) := by decide +kernel
theorem dX3_removeMember_63 : decode cX3_removeMember 63 = .ok (.ireturn, 1) := by decide +kernel
theorem dX3_values_0 : decode cX3_values 0 = .ok (.aload_n 0, 1) := by decide +kernel
theorem dX3_values_1 : decode cX3_values 1 = .ok (.iload_n 1, 1) := by decide +kernel
theorem dX3_values_2 : decode cX3_values 2 = .ok (.invokevirtual 50, 3) := by decide +kernel
theorem dX3_values_5 : decode cX3_values 5 = .ok (.aload_n 0, 1) := by decide +kernel
theorem dX3_values_6 : decode cX3_values 6 = .ok (.getfield 11, 3) := by decide +kernel
theorem dX3_values_9 : decode cX3_values 9 = .ok (.iload_n 1, 1) := by decide +kernel
theorem dX3_values_10 : decode cX3_values 10 = .ok (.iconst 0, 1) := by decide +kernel
theorem dX3_values_11 : decode cX3_values 11 = .ok (.invokestatic 109, 3) := by decide +kernel
theorem dX3_values_14 : decode cX3_values 14 = .ok (.invokestatic 96, 3) := by decide +kernel
theorem dX3_values_17 : decode cX3_values 17 = .ok (.ireturn, 1) := by decide +kernel
theorem dX3_hasValue_0 : decode cX3_hasValue 0 = .ok (.aload_n 0, 1) := by decide +kernel
theorem dX3_hasValue_1 : decode cX3_hasValue 1 = .ok (.iload_n 1, 1) := by decide +kernel
theorem dX3_hasValue_2 : decode cX3_hasValue 2 = .ok (.invokevirtual 50, 3) := by decide +kernel
theorem dX3_hasValue_5 : decode cX3_hasValue 5 = .ok (.iload_n 2, 1) := by decide +kernel
theorem dX3_hasValue_6 : decode cX3_hasValue 6 = .ok (.invokestatic 113, 3) := by decide +kernel
theorem dX3_hasValue_9 : decode cX3_hasValue 9 = .ok (.aload_n 0, 1) := by decide +kernel
theorem dX3_hasValue_10 : decode cX3_hasValue 10 = .ok (.getfield 11, 3) := by decide +kernel
theorem dX3_hasValue_13 : decode cX3_hasValue 13 = .ok (.iload_n 1, 1) := by decide +kernel
theorem dX3_hasValue_14 : decode cX3_hasValue 14 = .ok (.iconst 0, 1) := by decide +kernel
theorem dX3_hasValue_15 : decode cX3_hasValue 15 = .ok (.invokestatic 109, 3) := by decide +kernel
theorem dX3_hasValue_18 : decode cX3_hasValue 18 = .ok (.iload_n 2, 1) := by decide +kernel
theorem dX3_hasValue_19 : decode cX3_hasValue 19 = .ok (.invokestatic 78, 3) := by decide +kernel
theorem dX3_hasValue_22 : decode cX3_hasValue 22 = .ok (.ireturn, 1) := by decide +kernel
theorem dX3_users_0 : decode cX3_users 0 = .ok (.aload_n 0, 1) := by decide +kernel
theorem dX3_users_1 : decode cX3_users 1 = .ok (.iload_n 1, 1) := by decide +kernel
theorem dX3_users_2 : decode cX3_users 2 = .ok (.invokevirtual 50, 3) := by decide +kernel
theorem dX3_users_5 : decode cX3_users 5 = .ok (.iconst 0, 1) := by decide +kernel
theorem dX3_users_6 : decode cX3_users 6 = .ok (.istore_n 2, 1) := by decide +kernel
theorem dX3_users_7 : decode cX3_users 7 = .ok (.iconst 0, 1) := by decide +kernel
theorem dX3_users_8 : decode cX3_users 8 = .ok (.istore_n 3, 1) := by decide +kernel
theorem dX3_users_9 : decode cX3_users 9 = .ok (.iload_n 3, 1) := by decide +kernel
theorem dX3_users_10 : decode cX3_users 10 = .ok (.aload_n 0, 1) := by decide +kernel
theorem dX3_users_11 : decode cX3_users 11 = .ok (.getfield 116, 3) := by decide +kernel
theorem dX3_users_14 : decode cX3_users 14 = .ok (.if_icmp .ge 59, 3) := by decide +kernel
theorem dX3_users_17 : decode cX3_users 17 = .ok (.aload_n 0, 1) := by decide +kernel
theorem dX3_users_18 : decode cX3_users 18 = .ok (.getfield 17, 3) := by decide +kernel
theorem dX3_users_21 : decode cX3_users 21 = .ok (.iload_n 3, 1) := by decide +kernel
theorem dX3_users_22 : decode cX3_users 22 = .ok (.aaload, 1) := by decide +kernel
theorem dX3_users_23 : decode cX3_users 23 = .ok (.getfield 119, 3) := by decide +kernel
theorem dX3_users_26 : decode cX3_users 26 = .ok (.astore 4, 2) := by decide +kernel
theorem dX3_users_28 : decode cX3_users 28 = .ok (.aload_n 0, 1) := by decide +kernel
theorem dX3_users_29 : decode cX3_users 29 = .ok (.aload 4, 2) := by decide +kernel
theorem dX3_users_31 : decode cX3_users 31 = .ok (.iconst 0, 1) := by decide +kernel
theorem dX3_users_32 : decode cX3_users 32 = .ok (.iaload, 1) := by decide +kernel
theorem dX3_users_33 : decode cX3_users 33 = .ok (.iload_n 1, 1) := by decide +kernel
theorem dX3_users_34 : decode cX3_users 34 = .ok (.invokevirtual 122, 3) := by decide +kernel
theorem dX3_users_37 : decode cX3_users 37 = .ok (.ifCond .ne 27, 3) := by decide +kernel
theorem dX3_users_40 : decode cX3_users 40 = .ok (.aload_n 0, 1) := by decide +kernel
theorem dX3_users_41 : decode cX3_users 41 = .ok (.aload 4, 2) := by decide +kernel
theorem dX3_users_43 : decode cX3_users 43 = .ok (.iconst 1, 1) := by decide +kernel
theorem dX3_users_44 : decode cX3_users 44 = .ok (.iaload, 1) := by decide +kernel
theorem dX3_users_45 : decode cX3_users 45 = .ok (.iload_n 1, 1) := by decide +kernel
theorem dX3_users_46 : decode cX3_users 46 = .ok (.invokevirtual 122, 3) := by decide +kernel
theorem dX3_users_49 : decode cX3_users 49 = .ok (.ifCond .ne 15, 3) := by decide +kernel
theorem dX3_users_52 : decode cX3_users 52 = .ok (.aload_n 0, 1) := by decide +kernel
theorem dX3_users_53 : decode cX3_users 53 = .ok (.aload 4, 2) := by decide +kernel
theorem dX3_users_55 : decode cX3_users 55 = .ok (.iconst 2, 1) := by decide +kernel
theorem dX3_users_56 : decode cX3_users 56 = .ok (.iaload, 1) := by decide +kernel
theorem dX3_users_57 : decode cX3_users 57 = .ok (.iload_n 1, 1) := by decide +kernel
theorem dX3_users_58 : decode cX3_users 58 = .ok (.invokevirtual 122, 3) := by decide +kernel
theorem dX3_users_61 : decode cX3_users 61 = .ok (.ifCond .eq 6, 3) := by decide +kernel
theorem dX3_users_64 : decode cX3_users 64 = .ok (.iinc 2 1, 3) := by decide +kernel
theorem dX3_users_67 : decode cX3_users 67 = .ok (.iinc 3 1, 3) := by decide +kernel
theorem dX3_users_70 : decode cX3_users 70 = .ok (.goto (-61), 3) := by decide +kernel
theorem dX3_users_73 : decode cX3_users 73 = .ok (.iload_n 2, 1) := by decide +kernel
theorem dX3_users_74 : decode cX3_users 74 = .ok (.ireturn, 1) := by decide +kernel
theorem dX3_addRule_0 : decode cX3_addRule 0 = .ok (.iload_n 1, 1) := by decide +kernel
theorem dX3_addRule_1 : decode cX3_addRule 1 = .ok (.ifCond .lt 11, 3) := by decide +kernel
theorem dX3_addRule_4 : decode cX3_addRule 4 = .ok (.iload_n 1, 1) := by decide +kernel
theorem dX3_addRule_5 : decode cX3_addRule 5 = .ok (.aload_n 0, 1) := by decide +kernel
theorem dX3_addRule_6 : decode cX3_addRule 6 = .ok (.getfield 116, 3) := by decide +kernel
theorem dX3_addRule_9 : decode cX3_addRule 9 = .ok (.if_icmp .le 13, 3) := by decide +kernel
theorem dX3_addRule_12 : decode cX3_addRule 12 = .ok (.new 125, 3) := by decide +kernel
theorem dX3_addRule_15 : decode cX3_addRule 15 = .ok (.dup, 1) := by decide +kernel
theorem dX3_addRule_16 : decode cX3_addRule 16 = .ok (.ldc 127, 2) := by decide +kernel
theorem dX3_addRule_18 : decode cX3_addRule 18 = .ok (.invokespecial 129, 3) := by decide +kernel
theorem dX3_addRule_21 : decode cX3_addRule 21 = .ok (.athrow, 1) := by decide +kernel
theorem dX3_addRule_22 : decode cX3_addRule 22 = .ok (.aload_n 0, 1) := by decide +kernel
theorem dX3_addRule_23 : decode cX3_addRule 23 = .ok (.iload_n 3, 1) := by decide +kernel
theorem dX3_addRule_24 : decode cX3_addRule 24 = .ok (.invokevirtual 130, 3) := by decide +kernel
theorem dX3_addRule_27 : decode cX3_addRule 27 = .ok (.aload_n 0, 1) := by decide +kernel
theorem dX3_addRule_28 : decode cX3_addRule 28 = .ok (.iload 4, 2) := by decide +kernel
theorem dX3_addRule_30 : decode cX3_addRule 30 = .ok (.invokevirtual 130, 3) := by decide +kernel
theorem dX3_addRule_33 : decode cX3_addRule 33 = .ok (.aload_n 0, 1) := by decide +kernel
theorem dX3_addRule_34 : decode cX3_addRule 34 = .ok (.iload 5, 2) := by decide +kernel
theorem dX3_addRule_36 : decode cX3_addRule 36 = .ok (.invokevirtual 130, 3) := by decide +kernel
theorem dX3_addRule_39 : decode cX3_addRule 39 = .ok (.iload_n 2, 1) := by decide +kernel
theorem dX3_addRule_40 : decode cX3_addRule 40 = .ok (.bipush 97, 2) := by decide +kernel
theorem dX3_addRule_42 : decode cX3_addRule 42 = .ok (.if_icmp .eq 19, 3) := by decide +kernel
theorem dX3_addRule_45 : decode cX3_addRule 45 = .ok (.iload_n 2, 1) := by decide +kernel
theorem dX3_addRule_46 : decode cX3_addRule 46 = .ok (.bipush 100, 2) := by decide +kernel
theorem dX3_addRule_48 : decode cX3_addRule 48 = .ok (.if_icmp .eq 13, 3) := by decide +kernel
theorem dX3_addRule_51 : decode cX3_addRule 51 = .ok (.new 82, 3) := by decide +kernel
theorem dX3_addRule_54 : decode cX3_addRule 54 = .ok (.dup, 1) := by decide +kernel
theorem dX3_addRule_55 : decode cX3_addRule 55 = .ok (.ldc 133, 2) := by decide +kernel
theorem dX3_addRule_57 : decode cX3_addRule 57 = .ok (.invokespecial 86, 3) := by decide +kernel
theorem dX3_addRule_60 : decode cX3_addRule 60 = .ok (.athrow, 1) := by decide +kernel
theorem dX3_addRule_61 : decode cX3_addRule 61 = .ok (.iload 6, 2) := by decide +kernel
theorem dX3_addRule_63 : decode cX3_addRule 63 = .ok (.invokestatic 135, 3) := by decide +kernel
theorem dX3_addRule_66 : decode cX3_addRule 66 = .ok (.aload_n 0, 1) := by decide +kernel
theorem dX3_addRule_67 : decode cX3_addRule 67 = .ok (.getfield 116, 3) := by decide +kernel
theorem dX3_addRule_70 : decode cX3_addRule 70 = .ok (.bipush 8, 2) := by decide +kernel
theorem dX3_addRule_72 : decode cX3_addRule 72 = .ok (.if_icmp .lt 13, 3) := by decide +kernel
theorem dX3_addRule_75 : decode cX3_addRule 75 = .ok (.new 43, 3) := by decide +kernel
theorem dX3_addRule_78 : decode cX3_addRule 78 = .ok (.dup, 1) := by decide +kernel
theorem dX3_addRule_79 : decode cX3_addRule 79 = .ok (.ldc 138, 2) := by decide +kernel
theorem dX3_addRule_81 : decode cX3_addRule 81 = .ok (.invokespecial 47, 3) := by decide +kernel
theorem dX3_addRule_84 : decode cX3_addRule 84 = .ok (.athrow, 1) := by decide +kernel
theorem dX3_addRule_85 : decode cX3_addRule 85 = .ok (.aload_n 0, 1) := by decide +kernel
theorem dX3_addRule_86 : decode cX3_addRule 86 = .ok (.getfield 17, 3) := by decide +kernel
theorem dX3_addRule_89 : decode cX3_addRule 89 = .ok (.aload_n 0, 1) := by decide +kernel
theorem dX3_addRule_90 : decode cX3_addRule 90 = .ok (.getfield 116, 3) := by decide +kernel
theorem dX3_addRule_93 : decode cX3_addRule 93 = .ok (.aaload, 1) := by decide +kernel
theorem dX3_addRule_94 : decode cX3_addRule 94 = .ok (.astore 7, 2) := by decide +kernel
theorem dX3_addRule_96 : decode cX3_addRule 96 = .ok (.aload 7, 2) := by decide +kernel
theorem dX3_addRule_98 : decode cX3_addRule 98 = .ok (.aload_n 0, 1) := by decide +kernel
theorem dX3_addRule_99 : decode cX3_addRule 99 = .ok (.getfield 140, 3) := by decide +kernel
theorem dX3_addRule_102 : decode cX3_addRule 102 = .ok (.iload_n 2, 1) := by decide +kernel
theorem dX3_addRule_103 : decode cX3_addRule 103 = .ok (.iload 6, 2) := by decide +kernel
theorem dX3_addRule_105 : decode cX3_addRule 105 = .ok (.aload_n 0, 1) := by decide +kernel
theorem dX3_addRule_106 : decode cX3_addRule 106 = .ok (.getfield 143, 3) := by decide +kernel
theorem dX3_addRule_109 : decode cX3_addRule 109 = .ok (.invokevirtual 146, 3) := by decide +kernel
theorem dX3_addRule_112 : decode cX3_addRule 112 = .ok (.aload 7, 2) := by decide +kernel
theorem dX3_addRule_114 : decode cX3_addRule 114 = .ok (.getfield 119, 3) := by decide +kernel
theorem dX3_addRule_117 : decode cX3_addRule 117 = .ok (.iconst 0, 1) := by decide +kernel
theorem dX3_addRule_118 : decode cX3_addRule 118 = .ok (.iload_n 3, 1) := by decide +kernel
theorem dX3_addRule_119 : decode cX3_addRule 119 = .ok (.iastore, 1) := by decide +kernel
theorem dX3_addRule_120 : decode cX3_addRule 120 = .ok (.aload 7, 2) := by decide +kernel
theorem dX3_addRule_122 : decode cX3_addRule 122 = .ok (.getfield 119, 3) := by decide +kernel
theorem dX3_addRule_125 : decode cX3_addRule 125 = .ok (.iconst 1, 1) := by decide +kernel
theorem dX3_addRule_126 : decode cX3_addRule 126 = .ok (.iload 4, 2) := by decide +kernel
theorem dX3_addRule_128 : decode cX3_addRule 128 = .ok (.iastore, 1) := by decide +kernel
theorem dX3_addRule_129 : decode cX3_addRule 129 = .ok (.aload 7, 2) := by decide +kernel
theorem dX3_addRule_131 : decode cX3_addRule 131 = .ok (.getfield 119, 3) := by decide +kernel
theorem dX3_addRule_134 : decode cX3_addRule 134 = .ok (.iconst 2, 1) := by decide +kernel
theorem dX3_addRule_135 : decode cX3_addRule 135 = .ok (.iload 5, 2) := by decide +kernel
theorem dX3_addRule_137 : decode cX3_addRule 137 = .ok (.iastore, 1) := by decide +kernel
theorem dX3_addRule_138 : decode cX3_addRule 138 = .ok (.aload_n 0, 1) := by decide +kernel
theorem dX3_addRule_139 : decode cX3_addRule 139 = .ok (.dup, 1) := by decide +kernel
theorem dX3_addRule_140 : decode cX3_addRule 140 = .ok (.getfield 140, 3) := by decide +kernel
theorem dX3_addRule_143 : decode cX3_addRule 143 = .ok (.iconst 1, 1) := by decide +kernel
theorem dX3_addRule_144 : decode cX3_addRule 144 = .ok (.iadd, 1) := by decide +kernel
theorem dX3_addRule_145 : decode cX3_addRule 145 = .ok (.putfield 140, 3) := by decide +kernel
theorem dX3_addRule_148 : decode cX3_addRule 148 = .ok (.aload_n 0, 1) := by decide +kernel
theorem dX3_addRule_149 : decode cX3_addRule 149 = .ok (.dup, 1) := by decide +kernel
theorem dX3_addRule_150 : decode cX3_addRule 150 = .ok (.getfield 116, 3) := by decide +kernel
theorem dX3_addRule_153 : decode cX3_addRule 153 = .ok (.iconst 1, 1) := by decide +kernel
theorem dX3_addRule_154 : decode cX3_addRule 154 = .ok (.iadd, 1) := by decide +kernel
theorem dX3_addRule_155 : decode cX3_addRule 155 = .ok (.putfield 116, 3) := by decide +kernel
theorem dX3_addRule_158 : decode cX3_addRule 158 = .ok (.aload_n 0, 1) := by decide +kernel
theorem dX3_addRule_159 : decode cX3_addRule 159 = .ok (.aload_n 0, 1) := by decide +kernel
theorem dX3_addRule_160 : decode cX3_addRule 160 = .ok (.getfield 116, 3) := by decide +kernel
theorem dX3_addRule_163 : decode cX3_addRule 163 = .ok (.iconst 1, 1) := by decide +kernel
theorem dX3_addRule_164 : decode cX3_addRule 164 = .ok (.isub, 1) := by decide +kernel
theorem dX3_addRule_165 : decode cX3_addRule 165 = .ok (.iload_n 1, 1) := by decide +kernel
theorem dX3_addRule_166 : decode cX3_addRule 166 = .ok (.invokevirtual 150, 3) := by decide +kernel
theorem dX3_addRule_169 : decode cX3_addRule 169 = .ok (.aload_n 0, 1) := by decide +kernel
theorem dX3_addRule_170 : decode cX3_addRule 170 = .ok (.invokevirtual 70, 3) := by decide +kernel
theorem dX3_addRule_173 : decode cX3_addRule 173 = .ok (.aload 7, 2) := by decide +kernel
theorem dX3_addRule_175 : decode cX3_addRule 175 = .ok (.getfield 153, 3) := by decide +kernel
theorem dX3_addRule_178 : decode cX3_addRule 178 = .ok (.ireturn, 1) := by decide +kernel
theorem dX3_removeRule_0 : decode cX3_removeRule 0 = .ok (.aload_n 0, 1) := by decide +kernel
theorem dX3_removeRule_1 : decode cX3_removeRule 1 = .ok (.iload_n 1, 1) := by decide +kernel
theorem dX3_removeRule_2 : decode cX3_removeRule 2 = .ok (.invokevirtual 156, 3) := by decide +kernel
theorem dX3_removeRule_5 : decode cX3_removeRule 5 = .ok (.istore_n 2, 1) := by decide +kernel
theorem dX3_removeRule_6 : decode cX3_removeRule 6 = .ok (.aload_n 0, 1) := by decide +kernel
theorem dX3_removeRule_7 : decode cX3_removeRule 7 = .ok (.iload_n 2, 1) := by decide +kernel
theorem dX3_removeRule_8 : decode cX3_removeRule 8 = .ok (.invokevirtual 159, 3) := by decide +kernel
theorem dX3_removeRule_11 : decode cX3_removeRule 11 = .ok (.istore_n 3, 1) := by decide +kernel
theorem dX3_removeRule_12 : decode cX3_removeRule 12 = .ok (.aload_n 0, 1) := by decide +kernel
theorem dX3_removeRule_13 : decode cX3_removeRule 13 = .ok (.iload_n 2, 1) := by decide +kernel
theorem dX3_removeRule_14 : decode cX3_removeRule 14 = .ok (.aload_n 0, 1) := by decide +kernel
theorem dX3_removeRule_15 : decode cX3_removeRule 15 = .ok (.getfield 116, 3) := by decide +kernel
theorem dX3_removeRule_18 : decode cX3_removeRule 18 = .ok (.iconst 1, 1) := by decide +kernel
theorem dX3_removeRule_19 : decode cX3_removeRule 19 = .ok (.isub, 1) := by decide +kernel
theorem dX3_removeRule_20 : decode cX3_removeRule 20 = .ok (.invokevirtual 150, 3) := by decide +kernel
theorem dX3_removeRule_23 : decode cX3_removeRule 23 = .ok (.aload_n 0, 1) := by decide +kernel
theorem dX3_removeRule_24 : decode cX3_removeRule 24 = .ok (.dup, 1) := by decide +kernel
theorem dX3_removeRule_25 : decode cX3_removeRule 25 = .ok (.getfield 116, 3) := by decide +kernel
theorem dX3_removeRule_28 : decode cX3_removeRule 28 = .ok (.iconst 1, 1) := by decide +kernel
theorem dX3_removeRule_29 : decode cX3_removeRule 29 = .ok (.isub, 1) := by decide +kernel
theorem dX3_removeRule_30 : decode cX3_removeRule 30 = .ok (.putfield 116, 3) := by decide +kernel
theorem dX3_removeRule_33 : decode cX3_removeRule 33 = .ok (.iload_n 3, 1) := by decide +kernel
theorem dX3_removeRule_34 : decode cX3_removeRule 34 = .ok (.ireturn, 1) := by decide +kernel
theorem dX3_setLastDay_0 : decode cX3_setLastDay 0 = .ok (.aload_n 0, 1) := by decide +kernel
theorem dX3_setLastDay_1 : decode cX3_setLastDay 1 = .ok (.getfield 17, 3) := by decide +kernel
theorem dX3_setLastDay_4 : decode cX3_setLastDay 4 = .ok (.aload_n 0, 1) := by decide +kernel
theorem dX3_setLastDay_5 : decode cX3_setLastDay 5 = .ok (.iload_n 1, 1) := by decide +kernel
theorem dX3_setLastDay_6 : decode cX3_setLastDay 6 = .ok (.invokevirtual 156, 3) := by decide +kernel
theorem dX3_setLastDay_9 : decode cX3_setLastDay 9 = .ok (.aaload, 1) := by decide +kernel
theorem dX3_setLastDay_10 : decode cX3_setLastDay 10 = .ok (.astore_n 3, 1) := by decide +kernel
theorem dX3_setLastDay_11 : decode cX3_setLastDay 11 = .ok (.iload_n 2, 1) := by decide +kernel
theorem dX3_setLastDay_12 : decode cX3_setLastDay 12 = .ok (.iconst (-1), 1) := by decide +kernel
theorem dX3_setLastDay_13 : decode cX3_setLastDay 13 = .ok (.if_icmp .eq 28, 3) := by decide +kernel
theorem dX3_setLastDay_16 : decode cX3_setLastDay 16 = .ok (.iload_n 2, 1) := by decide +kernel
theorem dX3_setLastDay_17 : decode cX3_setLastDay 17 = .ok (.aload_n 0, 1) := by decide +kernel
theorem dX3_setLastDay_18 : decode cX3_setLastDay 18 = .ok (.getfield 143, 3) := by decide +kernel
theorem dX3_setLastDay_21 : decode cX3_setLastDay 21 = .ok (.if_icmp .lt 10, 3) := by decide +kernel
theorem dX3_setLastDay_24 : decode cX3_setLastDay 24 = .ok (.iload_n 2, 1) := by decide +kernel
theorem dX3_setLastDay_25 : decode cX3_setLastDay 25 = .ok (.sipush 999, 3) := by decide +kernel
theorem dX3_setLastDay_28 : decode cX3_setLastDay 28 = .ok (.if_icmp .le 13, 3) := by decide +kernel
theorem dX3_setLastDay_31 : decode cX3_setLastDay 31 = .ok (.new 82, 3) := by decide +kernel
theorem dX3_setLastDay_34 : decode cX3_setLastDay 34 = .ok (.dup, 1) := by decide +kernel
theorem dX3_setLastDay_35 : decode cX3_setLastDay 35 = .ok (.ldc 162, 2) := by decide +kernel
theorem dX3_setLastDay_37 : decode cX3_setLastDay 37 = .ok (.invokespecial 86, 3) := by decide +kernel
theorem dX3_setLastDay_40 : decode cX3_setLastDay 40 = .ok (.athrow, 1) := by decide +kernel
theorem dX3_setLastDay_41 : decode cX3_setLastDay 41 = .ok (.aload_n 3, 1) := by decide +kernel
theorem dX3_setLastDay_42 : decode cX3_setLastDay 42 = .ok (.getfield 164, 3) := by decide +kernel
theorem dX3_setLastDay_45 : decode cX3_setLastDay 45 = .ok (.istore 4, 2) := by decide +kernel
theorem dX3_setLastDay_47 : decode cX3_setLastDay 47 = .ok (.aload_n 3, 1) := by decide +kernel
theorem dX3_setLastDay_48 : decode cX3_setLastDay 48 = .ok (.iload_n 2, 1) := by decide +kernel
theorem dX3_setLastDay_49 : decode cX3_setLastDay 49 = .ok (.putfield 164, 3) := by decide +kernel
theorem dX3_setLastDay_52 : decode cX3_setLastDay 52 = .ok (.iload 4, 2) := by decide +kernel
theorem dX3_setLastDay_54 : decode cX3_setLastDay 54 = .ok (.ireturn, 1) := by decide +kernel
theorem dX3_rules_0 : decode cX3_rules 0 = .ok (.aload_n 0, 1) := by decide +kernel
theorem dX3_rules_1 : decode cX3_rules 1 = .ok (.getfield 116, 3) := by decide +kernel
theorem dX3_rules_4 : decode cX3_rules 4 = .ok (.ireturn, 1) := by decide +kernel
theorem dX3_ruleAt_0 : decode cX3_ruleAt 0 = .ok (.aload_n 0, 1) := by decide +kernel
theorem dX3_ruleAt_1 : decode cX3_ruleAt 1 = .ok (.iload_n 1, 1) := by decide +kernel
theorem dX3_ruleAt_2 : decode cX3_ruleAt 2 = .ok (.invokevirtual 167, 3) := by decide +kernel
theorem dX3_ruleAt_5 : decode cX3_ruleAt 5 = .ok (.aload_n 0, 1) := by decide +kernel
theorem dX3_ruleAt_6 : decode cX3_ruleAt 6 = .ok (.getfield 17, 3) := by decide +kernel
theorem dX3_ruleAt_9 : decode cX3_ruleAt 9 = .ok (.iload_n 1, 1) := by decide +kernel
theorem dX3_ruleAt_10 : decode cX3_ruleAt 10 = .ok (.aaload, 1) := by decide +kernel
theorem dX3_ruleAt_11 : decode cX3_ruleAt 11 = .ok (.getfield 153, 3) := by decide +kernel
theorem dX3_ruleAt_14 : decode cX3_ruleAt 14 = .ok (.ireturn, 1) := by decide +kernel
theorem dX3_isInForce_0 : decode cX3_isInForce 0 = .ok (.aload_n 0, 1) := by decide +kernel
theorem dX3_isInForce_1 : decode cX3_isInForce 1 = .ok (.getfield 17, 3) := by decide +kernel
theorem dX3_isInForce_4 : decode cX3_isInForce 4 = .ok (.aload_n 0, 1) := by decide +kernel
theorem dX3_isInForce_5 : decode cX3_isInForce 5 = .ok (.iload_n 1, 1) := by decide +kernel
theorem dX3_isInForce_6 : decode cX3_isInForce 6 = .ok (.invokevirtual 156, 3) := by decide +kernel
theorem dX3_isInForce_9 : decode cX3_isInForce 9 = .ok (.aaload, 1) := by decide +kernel
theorem dX3_isInForce_10 : decode cX3_isInForce 10 = .ok (.aload_n 0, 1) := by decide +kernel
theorem dX3_isInForce_11 : decode cX3_isInForce 11 = .ok (.getfield 143, 3) := by decide +kernel
theorem dX3_isInForce_14 : decode cX3_isInForce 14 = .ok (.invokevirtual 170, 3) := by decide +kernel
theorem dX3_isInForce_17 : decode cX3_isInForce 17 = .ok (.ireturn, 1) := by decide +kernel
theorem dX3_expiring_0 : decode cX3_expiring 0 = .ok (.iload_n 1, 1) := by decide +kernel
theorem dX3_expiring_1 : decode cX3_expiring 1 = .ok (.invokestatic 135, 3) := by decide +kernel
theorem dX3_expiring_4 : decode cX3_expiring 4 = .ok (.iload_n 2, 1) := by decide +kernel
theorem dX3_expiring_5 : decode cX3_expiring 5 = .ok (.invokestatic 174, 3) := by decide +kernel
theorem dX3_expiring_8 : decode cX3_expiring 8 = .ok (.iconst 0, 1) := by decide +kernel
theorem dX3_expiring_9 : decode cX3_expiring 9 = .ok (.istore_n 3, 1) := by decide +kernel
theorem dX3_expiring_10 : decode cX3_expiring 10 = .ok (.iconst 0, 1) := by decide +kernel
theorem dX3_expiring_11 : decode cX3_expiring 11 = .ok (.istore 4, 2) := by decide +kernel
theorem dX3_expiring_13 : decode cX3_expiring 13 = .ok (.iload 4, 2) := by decide +kernel
theorem dX3_expiring_15 : decode cX3_expiring 15 = .ok (.aload_n 0, 1) := by decide +kernel
theorem dX3_expiring_16 : decode cX3_expiring 16 = .ok (.getfield 116, 3) := by decide +kernel
theorem dX3_expiring_19 : decode cX3_expiring 19 = .ok (.if_icmp .ge 56, 3) := by decide +kernel
theorem dX3_expiring_22 : decode cX3_expiring 22 = .ok (.aload_n 0, 1) := by decide +kernel
theorem dX3_expiring_23 : decode cX3_expiring 23 = .ok (.getfield 17, 3) := by decide +kernel
theorem dX3_expiring_26 : decode cX3_expiring 26 = .ok (.iload 4, 2) := by decide +kernel
theorem dX3_expiring_28 : decode cX3_expiring 28 = .ok (.aaload, 1) := by decide +kernel
theorem dX3_expiring_29 : decode cX3_expiring 29 = .ok (.astore 5, 2) := by decide +kernel
theorem dX3_expiring_31 : decode cX3_expiring 31 = .ok (.aload 5, 2) := by decide +kernel
theorem dX3_expiring_33 : decode cX3_expiring 33 = .ok (.getfield 177, 3) := by decide +kernel
theorem dX3_expiring_36 : decode cX3_expiring 36 = .ok (.iload_n 1, 1) := by decide +kernel
theorem dX3_expiring_37 : decode cX3_expiring 37 = .ok (.if_icmp .ne 32, 3) := by decide +kernel
theorem dX3_expiring_40 : decode cX3_expiring 40 = .ok (.aload 5, 2) := by decide +kernel
theorem dX3_expiring_42 : decode cX3_expiring 42 = .ok (.aload_n 0, 1) := by decide +kernel
theorem dX3_expiring_43 : decode cX3_expiring 43 = .ok (.getfield 143, 3) := by decide +kernel
theorem dX3_expiring_46 : decode cX3_expiring 46 = .ok (.invokevirtual 170, 3) := by decide +kernel
theorem dX3_expiring_49 : decode cX3_expiring 49 = .ok (.ifCond .eq 20, 3) := by decide +kernel
theorem dX3_expiring_52 : decode cX3_expiring 52 = .ok (.aload 5, 2) := by decide +kernel
theorem dX3_expiring_54 : decode cX3_expiring 54 = .ok (.aload_n 0, 1) := by decide +kernel
theorem dX3_expiring_55 : decode cX3_expiring 55 = .ok (.getfield 143, 3) := by decide +kernel
theorem dX3_expiring_58 : decode cX3_expiring 58 = .ok (.iload_n 2, 1) := by decide +kernel
theorem dX3_expiring_59 : decode cX3_expiring 59 = .ok (.iadd, 1) := by decide +kernel
theorem dX3_expiring_60 : decode cX3_expiring 60 = .ok (.invokevirtual 170, 3) := by decide +kernel
theorem dX3_expiring_63 : decode cX3_expiring 63 = .ok (.ifCond .ne 6, 3) := by decide +kernel
theorem dX3_expiring_66 : decode cX3_expiring 66 = .ok (.iinc 3 1, 3) := by decide +kernel
theorem dX3_expiring_69 : decode cX3_expiring 69 = .ok (.iinc 4 1, 3) := by decide +kernel
theorem dX3_expiring_72 : decode cX3_expiring 72 = .ok (.goto (-59), 3) := by decide +kernel
theorem dX3_expiring_75 : decode cX3_expiring 75 = .ok (.iload_n 3, 1) := by decide +kernel
theorem dX3_expiring_76 : decode cX3_expiring 76 = .ok (.ireturn, 1) := by decide +kernel
theorem dX3_packet_0 : decode cX3_packet 0 = .ok (.iload_n 1, 1) := by decide +kernel
theorem dX3_packet_1 : decode cX3_packet 1 = .ok (.iload_n 2, 1) := by decide +kernel
theorem dX3_packet_2 : decode cX3_packet 2 = .ok (.iload_n 3, 1) := by decide +kernel
theorem dX3_packet_3 : decode cX3_packet 3 = .ok (.invokestatic 180, 3) := by decide +kernel
theorem dX3_packet_6 : decode cX3_packet 6 = .ok (.aload_n 0, 1) := by decide +kernel
theorem dX3_packet_7 : decode cX3_packet 7 = .ok (.iload_n 1, 1) := by decide +kernel
theorem dX3_packet_8 : decode cX3_packet 8 = .ok (.iload_n 2, 1) := by decide +kernel
theorem dX3_packet_9 : decode cX3_packet 9 = .ok (.iload_n 3, 1) := by decide +kernel
theorem dX3_packet_10 : decode cX3_packet 10 = .ok (.invokevirtual 184, 3) := by decide +kernel
theorem dX3_packet_13 : decode cX3_packet 13 = .ok (.istore 4, 2) := by decide +kernel
theorem dX3_packet_15 : decode cX3_packet 15 = .ok (.iload 4, 2) := by decide +kernel
theorem dX3_packet_17 : decode cX3_packet 17 = .ok (.iconst (-1), 1) := by decide +kernel
theorem dX3_packet_18 : decode cX3_packet 18 = .ok (.if_icmp .ne 6, 3) := by decide +kernel
theorem dX3_packet_21 : decode cX3_packet 21 = .ok (.bipush 100, 2) := by decide +kernel
theorem dX3_packet_23 : decode cX3_packet 23 = .ok (.ireturn, 1) := by decide +kernel
theorem dX3_packet_24 : decode cX3_packet 24 = .ok (.aload_n 0, 1) := by decide +kernel
theorem dX3_packet_25 : decode cX3_packet 25 = .ok (.getfield 17, 3) := by decide +kernel
theorem dX3_packet_28 : decode cX3_packet 28 = .ok (.iload 4, 2) := by decide +kernel
theorem dX3_packet_30 : decode cX3_packet 30 = .ok (.aaload, 1) := by decide +kernel
theorem dX3_packet_31 : decode cX3_packet 31 = .ok (.astore 5, 2) := by decide +kernel
theorem dX3_packet_33 : decode cX3_packet 33 = .ok (.aload 5, 2) := by decide +kernel
theorem dX3_packet_35 : decode cX3_packet 35 = .ok (.aload_n 0, 1) := by decide +kernel
theorem dX3_packet_36 : decode cX3_packet 36 = .ok (.getfield 143, 3) := by decide +kernel
theorem dX3_packet_39 : decode cX3_packet 39 = .ok (.invokevirtual 188, 3) := by decide +kernel
theorem dX3_packet_42 : decode cX3_packet 42 = .ok (.aload 5, 2) := by decide +kernel
theorem dX3_packet_44 : decode cX3_packet 44 = .ok (.getfield 191, 3) := by decide +kernel
theorem dX3_packet_47 : decode cX3_packet 47 = .ok (.ireturn, 1) := by decide +kernel
theorem dX3_decider_0 : decode cX3_decider 0 = .ok (.iload_n 1, 1) := by decide +kernel
theorem dX3_decider_1 : decode cX3_decider 1 = .ok (.iload_n 2, 1) := by decide +kernel
theorem dX3_decider_2 : decode cX3_decider 2 = .ok (.iload_n 3, 1) := by decide +kernel
theorem dX3_decider_3 : decode cX3_decider 3 = .ok (.invokestatic 180, 3) := by decide +kernel
theorem dX3_decider_6 : decode cX3_decider 6 = .ok (.aload_n 0, 1) := by decide +kernel
theorem dX3_decider_7 : decode cX3_decider 7 = .ok (.iload_n 1, 1) := by decide +kernel
theorem dX3_decider_8 : decode cX3_decider 8 = .ok (.iload_n 2, 1) := by decide +kernel
theorem dX3_decider_9 : decode cX3_decider 9 = .ok (.iload_n 3, 1) := by decide +kernel
theorem dX3_decider_10 : decode cX3_decider 10 = .ok (.invokevirtual 184, 3) := by decide +kernel
theorem dX3_decider_13 : decode cX3_decider 13 = .ok (.istore 4, 2) := by decide +kernel
theorem dX3_decider_15 : decode cX3_decider 15 = .ok (.iload 4, 2) := by decide +kernel
theorem dX3_decider_17 : decode cX3_decider 17 = .ok (.iconst (-1), 1) := by decide +kernel
theorem dX3_decider_18 : decode cX3_decider 18 = .ok (.if_icmp .ne 7, 3) := by decide +kernel
theorem dX3_decider_21 : decode cX3_decider 21 = .ok (.iconst (-1), 1) := by decide +kernel
theorem dX3_decider_22 : decode cX3_decider 22 = .ok (.goto 13, 3) := by decide +kernel
theorem dX3_decider_25 : decode cX3_decider 25 = .ok (.aload_n 0, 1) := by decide +kernel
theorem dX3_decider_26 : decode cX3_decider 26 = .ok (.getfield 17, 3) := by decide +kernel
theorem dX3_decider_29 : decode cX3_decider 29 = .ok (.iload 4, 2) := by decide +kernel
theorem dX3_decider_31 : decode cX3_decider 31 = .ok (.aaload, 1) := by decide +kernel
theorem dX3_decider_32 : decode cX3_decider 32 = .ok (.getfield 153, 3) := by decide +kernel
theorem dX3_decider_35 : decode cX3_decider 35 = .ok (.ireturn, 1) := by decide +kernel
theorem dX3_hits_0 : decode cX3_hits 0 = .ok (.aload_n 0, 1) := by decide +kernel
theorem dX3_hits_1 : decode cX3_hits 1 = .ok (.getfield 17, 3) := by decide +kernel
theorem dX3_hits_4 : decode cX3_hits 4 = .ok (.aload_n 0, 1) := by decide +kernel
theorem dX3_hits_5 : decode cX3_hits 5 = .ok (.iload_n 1, 1) := by decide +kernel
theorem dX3_hits_6 : decode cX3_hits 6 = .ok (.invokevirtual 156, 3) := by decide +kernel
theorem dX3_hits_9 : decode cX3_hits 9 = .ok (.aaload, 1) := by decide +kernel
theorem dX3_hits_10 : decode cX3_hits 10 = .ok (.getfield 195, 3) := by decide +kernel
theorem dX3_hits_13 : decode cX3_hits 13 = .ok (.ireturn, 1) := by decide +kernel
theorem dX3_busyDays_0 : decode cX3_busyDays 0 = .ok (.aload_n 0, 1) := by decide +kernel
theorem dX3_busyDays_1 : decode cX3_busyDays 1 = .ok (.getfield 17, 3) := by decide +kernel
theorem dX3_busyDays_4 : decode cX3_busyDays 4 = .ok (.aload_n 0, 1) := by decide +kernel
theorem dX3_busyDays_5 : decode cX3_busyDays 5 = .ok (.iload_n 1, 1) := by decide +kernel
theorem dX3_busyDays_6 : decode cX3_busyDays 6 = .ok (.invokevirtual 156, 3) := by decide +kernel
theorem dX3_busyDays_9 : decode cX3_busyDays 9 = .ok (.aaload, 1) := by decide +kernel
theorem dX3_busyDays_10 : decode cX3_busyDays 10 = .ok (.getfield 198, 3) := by decide +kernel
theorem dX3_busyDays_13 : decode cX3_busyDays 13 = .ok (.ireturn, 1) := by decide +kernel
theorem dX3_idleDays_0 : decode cX3_idleDays 0 = .ok (.aload_n 0, 1) := by decide +kernel
theorem dX3_idleDays_1 : decode cX3_idleDays 1 = .ok (.getfield 17, 3) := by decide +kernel
theorem dX3_idleDays_4 : decode cX3_idleDays 4 = .ok (.aload_n 0, 1) := by decide +kernel
theorem dX3_idleDays_5 : decode cX3_idleDays 5 = .ok (.iload_n 1, 1) := by decide +kernel
theorem dX3_idleDays_6 : decode cX3_idleDays 6 = .ok (.invokevirtual 156, 3) := by decide +kernel
theorem dX3_idleDays_9 : decode cX3_idleDays 9 = .ok (.aaload, 1) := by decide +kernel
theorem dX3_idleDays_10 : decode cX3_idleDays 10 = .ok (.astore_n 2, 1) := by decide +kernel
theorem dX3_idleDays_11 : decode cX3_idleDays 11 = .ok (.aload_n 0, 1) := by decide +kernel
theorem dX3_idleDays_12 : decode cX3_idleDays 12 = .ok (.getfield 143, 3) := by decide +kernel
theorem dX3_idleDays_15 : decode cX3_idleDays 15 = .ok (.aload_n 2, 1) := by decide +kernel
theorem dX3_idleDays_16 : decode cX3_idleDays 16 = .ok (.getfield 201, 3) := by decide +kernel
theorem dX3_idleDays_19 : decode cX3_idleDays 19 = .ok (.iconst (-1), 1) := by decide +kernel
theorem dX3_idleDays_20 : decode cX3_idleDays 20 = .ok (.if_icmp .ne 10, 3) := by decide +kernel
theorem dX3_idleDays_23 : decode cX3_idleDays 23 = .ok (.aload_n 2, 1) := by decide +kernel
theorem dX3_idleDays_24 : decode cX3_idleDays 24 = .ok (.getfield 204, 3) := by decide +kernel
theorem dX3_idleDays_27 : decode cX3_idleDays 27 = .ok (.goto 7, 3) := by decide +kernel
theorem dX3_idleDays_30 : decode cX3_idleDays 30 = .ok (.aload_n 2, 1) := by decide +kernel
theorem dX3_idleDays_31 : decode cX3_idleDays 31 = .ok (.getfield 201, 3) := by decide +kernel
theorem dX3_idleDays_34 : decode cX3_idleDays 34 = .ok (.isub, 1) := by decide +kernel
theorem dX3_idleDays_35 : decode cX3_idleDays 35 = .ok (.ireturn, 1) := by decide +kernel
theorem dX3_pass_0 : decode cX3_pass 0 = .ok (.iload_n 1, 1) := by decide +kernel
theorem dX3_pass_1 : decode cX3_pass 1 = .ok (.invokestatic 174, 3) := by decide +kernel
theorem dX3_pass_4 : decode cX3_pass 4 = .ok (.aload_n 0, 1) := by decide +kernel
theorem dX3_pass_5 : decode cX3_pass 5 = .ok (.getfield 143, 3) := by decide +kernel
theorem dX3_pass_8 : decode cX3_pass 8 = .ok (.iload_n 1, 1) := by decide +kernel
theorem dX3_pass_9 : decode cX3_pass 9 = .ok (.iadd, 1) := by decide +kernel
theorem dX3_pass_10 : decode cX3_pass 10 = .ok (.sipush 999, 3) := by decide +kernel
theorem dX3_pass_13 : decode cX3_pass 13 = .ok (.if_icmp .le 13, 3) := by decide +kernel
theorem dX3_pass_16 : decode cX3_pass 16 = .ok (.new 82, 3) := by decide +kernel
theorem dX3_pass_19 : decode cX3_pass 19 = .ok (.dup, 1) := by decide +kernel
theorem dX3_pass_20 : decode cX3_pass 20 = .ok (.ldc 207, 2) := by decide +kernel
theorem dX3_pass_22 : decode cX3_pass 22 = .ok (.invokespecial 86, 3) := by decide +kernel
theorem dX3_pass_25 : decode cX3_pass 25 = .ok (.athrow, 1) := by decide +kernel
theorem dX3_pass_26 : decode cX3_pass 26 = .ok (.aload_n 0, 1) := by decide +kernel
theorem dX3_pass_27 : decode cX3_pass 27 = .ok (.dup, 1) := by decide +kernel
theorem dX3_pass_28 : decode cX3_pass 28 = .ok (.getfield 143, 3) := by decide +kernel
theorem dX3_pass_31 : decode cX3_pass 31 = .ok (.iload_n 1, 1) := by decide +kernel
theorem dX3_pass_32 : decode cX3_pass 32 = .ok (.iadd, 1) := by decide +kernel
theorem dX3_pass_33 : decode cX3_pass 33 = .ok (.putfield 143, 3) := by decide +kernel
theorem dX3_pass_36 : decode cX3_pass 36 = .ok (.aload_n 0, 1) := by decide +kernel
theorem dX3_pass_37 : decode cX3_pass 37 = .ok (.getfield 143, 3) := by decide +kernel
theorem dX3_pass_40 : decode cX3_pass 40 = .ok (.ireturn, 1) := by decide +kernel
theorem dX3_day_0 : decode cX3_day 0 = .ok (.aload_n 0, 1) := by decide +kernel
theorem dX3_day_1 : decode cX3_day 1 = .ok (.getfield 143, 3) := by decide +kernel
theorem dX3_day_4 : decode cX3_day 4 = .ok (.ireturn, 1) := by decide +kernel
theorem dX3_matched_0 : decode cX3_matched 0 = .ok (.aload_n 0, 1) := by decide +kernel
theorem dX3_matched_1 : decode cX3_matched 1 = .ok (.getfield 17, 3) := by decide +kernel
theorem dX3_matched_4 : decode cX3_matched 4 = .ok (.aload_n 0, 1) := by decide +kernel
theorem dX3_matched_5 : decode cX3_matched 5 = .ok (.iload_n 1, 1) := by decide +kernel
theorem dX3_matched_6 : decode cX3_matched 6 = .ok (.invokevirtual 156, 3) := by decide +kernel
theorem dX3_matched_9 : decode cX3_matched 9 = .ok (.aaload, 1) := by decide +kernel
theorem dX3_matched_10 : decode cX3_matched 10 = .ok (.astore_n 2, 1) := by decide +kernel
theorem dX3_matched_11 : decode cX3_matched 11 = .ok (.aload_n 2, 1) := by decide +kernel
theorem dX3_matched_12 : decode cX3_matched 12 = .ok (.aload_n 2, 1) := by decide +kernel
theorem dX3_matched_13 : decode cX3_matched 13 = .ok (.invokestatic 209, 3) := by decide +kernel
theorem dX3_matched_16 : decode cX3_matched 16 = .ok (.ireturn, 1) := by decide +kernel
theorem dX3_decided_0 : decode cX3_decided 0 = .ok (.aload_n 0, 1) := by decide +kernel
theorem dX3_decided_1 : decode cX3_decided 1 = .ok (.aload_n 0, 1) := by decide +kernel
theorem dX3_decided_2 : decode cX3_decided 2 = .ok (.iload_n 1, 1) := by decide +kernel
theorem dX3_decided_3 : decode cX3_decided 3 = .ok (.invokevirtual 156, 3) := by decide +kernel
theorem dX3_decided_6 : decode cX3_decided 6 = .ok (.invokevirtual 213, 3) := by decide +kernel
theorem dX3_decided_9 : decode cX3_decided 9 = .ok (.ireturn, 1) := by decide +kernel
theorem dX3_decidedBySamples_0 : decode cX3_decidedBySamples 0 = .ok (.aload_n 0, 1) := by decide +kernel
theorem dX3_decidedBySamples_1 : decode cX3_decidedBySamples 1 = .ok (.iload_n 1, 1) := by decide +kernel
theorem dX3_decidedBySamples_2 : decode cX3_decidedBySamples 2 = .ok (.invokevirtual 156, 3) := by decide +kernel
theorem dX3_decidedBySamples_5 : decode cX3_decidedBySamples 5 = .ok (.istore_n 2, 1) := by decide +kernel
theorem dX3_decidedBySamples_6 : decode cX3_decidedBySamples 6 = .ok (.aload_n 0, 1) := by decide +kernel
theorem dX3_decidedBySamples_7 : decode cX3_decidedBySamples 7 = .ok (.iconst (-1), 1) := by decide +kernel
theorem dX3_decidedBySamples_8 : decode cX3_decidedBySamples 8 = .ok (.iconst 0, 1) := by decide +kernel
theorem dX3_decidedBySamples_9 : decode cX3_decidedBySamples 9 = .ok (.invokevirtual 216, 3) := by decide +kernel
theorem dX3_decidedBySamples_12 : decode cX3_decidedBySamples 12 = .ok (.aload_n 0, 1) := by decide +kernel
theorem dX3_decidedBySamples_13 : decode cX3_decidedBySamples 13 = .ok (.getfield 33, 3) := by decide +kernel
theorem dX3_decidedBySamples_16 : decode cX3_decidedBySamples 16 = .ok (.iload_n 2, 1) := by decide +kernel
theorem dX3_decidedBySamples_17 : decode cX3_decidedBySamples 17 = .ok (.aaload, 1) := by decide +kernel
theorem dX3_decidedBySamples_18 : decode cX3_decidedBySamples 18 = .ok (.iload_n 2, 1) := by decide +kernel
theorem dX3_decidedBySamples_19 : decode cX3_decidedBySamples 19 = .ok (.iaload, 1) := by decide +kernel
theorem dX3_decidedBySamples_20 : decode cX3_decidedBySamples 20 = .ok (.ireturn, 1) := by decide +kernel
theorem dX3_isShadowed_0 : decode cX3_isShadowed 0 = .ok (.aload_n 0, 1) := by decide +kernel
theorem dX3_isShadowed_1 : decode cX3_isShadowed 1 = .ok (.aload_n 0, 1) := by decide +kernel
theorem dX3_isShadowed_2 : decode cX3_isShadowed 2 = .ok (.iload_n 1, 1) := by decide +kernel
theorem dX3_isShadowed_3 : decode cX3_isShadowed 3 = .ok (.invokevirtual 156, 3) := by decide +kernel
theorem dX3_isShadowed_6 : decode cX3_isShadowed 6 = .ok (.invokevirtual 219, 3) := by decide +kernel
theorem dX3_isShadowed_9 : decode cX3_isShadowed 9 = .ok (.ireturn, 1) := by decide +kernel
theorem dX3_mainShadow_0 : decode cX3_mainShadow 0 = .ok (.aload_n 0, 1) := by decide +kernel
theorem dX3_mainShadow_1 : decode cX3_mainShadow 1 = .ok (.iload_n 1, 1) := by decide +kernel
theorem dX3_mainShadow_2 : decode cX3_mainShadow 2 = .ok (.invokevirtual 156, 3) := by decide +kernel
theorem dX3_mainShadow_5 : decode cX3_mainShadow 5 = .ok (.istore_n 2, 1) := by decide +kernel
theorem dX3_mainShadow_6 : decode cX3_mainShadow 6 = .ok (.iconst 0, 1) := by decide +kernel
theorem dX3_mainShadow_7 : decode cX3_mainShadow 7 = .ok (.istore_n 3, 1) := by decide +kernel
theorem dX3_mainShadow_8 : decode cX3_mainShadow 8 = .ok (.iconst (-1), 1) := by decide +kernel
theorem dX3_mainShadow_9 : decode cX3_mainShadow 9 = .ok (.istore 4, 2) := by decide +kernel
theorem dX3_mainShadow_11 : decode cX3_mainShadow 11 = .ok (.iconst 0, 1) := by decide +kernel
theorem dX3_mainShadow_12 : decode cX3_mainShadow 12 = .ok (.istore 5, 2) := by decide +kernel
theorem dX3_mainShadow_14 : decode cX3_mainShadow 14 = .ok (.iload 5, 2) := by decide +kernel
theorem dX3_mainShadow_16 : decode cX3_mainShadow 16 = .ok (.iload_n 2, 1) := by decide +kernel
theorem dX3_mainShadow_17 : decode cX3_mainShadow 17 = .ok (.if_icmp .ge 65, 3) := by decide +kernel
theorem dX3_mainShadow_20 : decode cX3_mainShadow 20 = .ok (.aload_n 0, 1) := by decide +kernel
theorem dX3_mainShadow_21 : decode cX3_mainShadow 21 = .ok (.getfield 17, 3) := by decide +kernel
theorem dX3_mainShadow_24 : decode cX3_mainShadow 24 = .ok (.iload 5, 2) := by decide +kernel
theorem dX3_mainShadow_26 : decode cX3_mainShadow 26 = .ok (.aaload, 1) := by decide +kernel
theorem dX3_mainShadow_27 : decode cX3_mainShadow 27 = .ok (.aload_n 0, 1) := by decide +kernel
theorem dX3_mainShadow_28 : decode cX3_mainShadow 28 = .ok (.getfield 17, 3) := by decide +kernel
theorem dX3_mainShadow_31 : decode cX3_mainShadow 31 = .ok (.iload_n 2, 1) := by decide +kernel
theorem dX3_mainShadow_32 : decode cX3_mainShadow 32 = .ok (.aaload, 1) := by decide +kernel
theorem dX3_mainShadow_33 : decode cX3_mainShadow 33 = .ok (.invokestatic 209, 3) := by decide +kernel
theorem dX3_mainShadow_36 : decode cX3_mainShadow 36 = .ok (.istore 6, 2) := by decide +kernel
theorem dX3_mainShadow_38 : decode cX3_mainShadow 38 = .ok (.aload_n 0, 1) := by decide +kernel
theorem dX3_mainShadow_39 : decode cX3_mainShadow 39 = .ok (.getfield 17, 3) := by decide +kernel
theorem dX3_mainShadow_42 : decode cX3_mainShadow 42 = .ok (.iload 5, 2) := by decide +kernel
theorem dX3_mainShadow_44 : decode cX3_mainShadow 44 = .ok (.aaload, 1) := by decide +kernel
theorem dX3_mainShadow_45 : decode cX3_mainShadow 45 = .ok (.aload_n 0, 1) := by decide +kernel
theorem dX3_mainShadow_46 : decode cX3_mainShadow 46 = .ok (.getfield 143, 3) := by decide +kernel
theorem dX3_mainShadow_49 : decode cX3_mainShadow 49 = .ok (.invokevirtual 170, 3) := by decide +kernel
theorem dX3_mainShadow_52 : decode cX3_mainShadow 52 = .ok (.ifCond .eq 24, 3) := by decide +kernel
theorem dX3_mainShadow_55 : decode cX3_mainShadow 55 = .ok (.iload 6, 2) := by decide +kernel
theorem dX3_mainShadow_57 : decode cX3_mainShadow 57 = .ok (.iload_n 3, 1) := by decide +kernel
theorem dX3_mainShadow_58 : decode cX3_mainShadow 58 = .ok (.if_icmp .le 18, 3) := by decide +kernel
theorem dX3_mainShadow_61 : decode cX3_mainShadow 61 = .ok (.iload 6, 2) := by decide +kernel
theorem dX3_mainShadow_63 : decode cX3_mainShadow 63 = .ok (.istore_n 3, 1) := by decide +kernel
theorem dX3_mainShadow_64 : decode cX3_mainShadow 64 = .ok (.aload_n 0, 1) := by decide +kernel
theorem dX3_mainShadow_65 : decode cX3_mainShadow 65 = .ok (.getfield 17, 3) := by decide +kernel
theorem dX3_mainShadow_68 : decode cX3_mainShadow 68 = .ok (.iload 5, 2) := by decide +kernel
theorem dX3_mainShadow_70 : decode cX3_mainShadow 70 = .ok (.aaload, 1) := by decide +kernel
theorem dX3_mainShadow_71 : decode cX3_mainShadow 71 = .ok (.getfield 153, 3) := by decide +kernel
theorem dX3_mainShadow_74 : decode cX3_mainShadow 74 = .ok (.istore 4, 2) := by decide +kernel
theorem dX3_mainShadow_76 : decode cX3_mainShadow 76 = .ok (.iinc 5 1, 3) := by decide +kernel
theorem dX3_mainShadow_79 : decode cX3_mainShadow 79 = .ok (.goto (-65), 3) := by decide +kernel
theorem dX3_mainShadow_82 : decode cX3_mainShadow 82 = .ok (.iload_n 3, 1) := by decide +kernel
theorem dX3_mainShadow_83 : decode cX3_mainShadow 83 = .ok (.ifCond .ne 13, 3) := by decide +kernel
theorem dX3_mainShadow_86 : decode cX3_mainShadow 86 = .ok (.new 104, 3) := by decide +kernel
theorem dX3_mainShadow_89 : decode cX3_mainShadow 89 = .ok (.dup, 1) := by decide +kernel
theorem dX3_mainShadow_90 : decode cX3_mainShadow 90 = .ok (.ldc 222, 2) := by decide +kernel
theorem dX3_mainShadow_92 : decode cX3_mainShadow 92 = .ok (.invokespecial 108, 3) := by decide +kernel
theorem dX3_mainShadow_95 : decode cX3_mainShadow 95 = .ok (.athrow, 1) := by decide +kernel
theorem dX3_mainShadow_96 : decode cX3_mainShadow 96 = .ok (.iload 4, 2) := by decide +kernel
theorem dX3_mainShadow_98 : decode cX3_mainShadow 98 = .ok (.ireturn, 1) := by decide +kernel
theorem dX3_accepted_0 : decode cX3_accepted 0 = .ok (.iconst 0, 1) := by decide +kernel
theorem dX3_accepted_1 : decode cX3_accepted 1 = .ok (.istore_n 1, 1) := by decide +kernel
theorem dX3_accepted_2 : decode cX3_accepted 2 = .ok (.iconst 0, 1) := by decide +kernel
theorem dX3_accepted_3 : decode cX3_accepted 3 = .ok (.istore_n 2, 1) := by decide +kernel
theorem dX3_accepted_4 : decode cX3_accepted 4 = .ok (.iload_n 2, 1) := by decide +kernel
theorem dX3_accepted_5 : decode cX3_accepted 5 = .ok (.aload_n 0, 1) := by decide +kernel
theorem dX3_accepted_6 : decode cX3_accepted 6 = .ok (.getfield 116, 3) := by decide +kernel
theorem dX3_accepted_9 : decode cX3_accepted 9 = .ok (.if_icmp .ge 31, 3) := by decide +kernel
theorem dX3_accepted_12 : decode cX3_accepted 12 = .ok (.aload_n 0, 1) := by decide +kernel
theorem dX3_accepted_13 : decode cX3_accepted 13 = .ok (.getfield 17, 3) := by decide +kernel
theorem dX3_accepted_16 : decode cX3_accepted 16 = .ok (.iload_n 2, 1) := by decide +kernel
theorem dX3_accepted_17 : decode cX3_accepted 17 = .ok (.aaload, 1) := by decide +kernel
theorem dX3_accepted_18 : decode cX3_accepted 18 = .ok (.getfield 191, 3) := by decide +kernel
theorem dX3_accepted_21 : decode cX3_accepted 21 = .ok (.bipush 97, 2) := by decide +kernel
theorem dX3_accepted_23 : decode cX3_accepted 23 = .ok (.if_icmp .ne 11, 3) := by decide +kernel
theorem dX3_accepted_26 : decode cX3_accepted 26 = .ok (.iload_n 1, 1) := by decide +kernel
theorem dX3_accepted_27 : decode cX3_accepted 27 = .ok (.aload_n 0, 1) := by decide +kernel
theorem dX3_accepted_28 : decode cX3_accepted 28 = .ok (.iload_n 2, 1) := by decide +kernel
theorem dX3_accepted_29 : decode cX3_accepted 29 = .ok (.invokevirtual 213, 3) := by decide +kernel
theorem dX3_accepted_32 : decode cX3_accepted 32 = .ok (.iadd, 1) := by decide +kernel
theorem dX3_accepted_33 : decode cX3_accepted 33 = .ok (.istore_n 1, 1) := by decide +kernel
theorem dX3_accepted_34 : decode cX3_accepted 34 = .ok (.iinc 2 1, 3) := by decide +kernel
theorem dX3_accepted_37 : decode cX3_accepted 37 = .ok (.goto (-33), 3) := by decide +kernel
theorem dX3_accepted_40 : decode cX3_accepted 40 = .ok (.iload_n 1, 1) := by decide +kernel
theorem dX3_accepted_41 : decode cX3_accepted 41 = .ok (.ireturn, 1) := by decide +kernel
theorem dX3_changedByMove_0 : decode cX3_changedByMove 0 = .ok (.aload_n 0, 1) := by decide +kernel
theorem dX3_changedByMove_1 : decode cX3_changedByMove 1 = .ok (.iload_n 1, 1) := by decide +kernel
theorem dX3_changedByMove_2 : decode cX3_changedByMove 2 = .ok (.invokevirtual 156, 3) := by decide +kernel
theorem dX3_changedByMove_5 : decode cX3_changedByMove 5 = .ok (.istore_n 3, 1) := by decide +kernel
theorem dX3_changedByMove_6 : decode cX3_changedByMove 6 = .ok (.aload_n 0, 1) := by decide +kernel
theorem dX3_changedByMove_7 : decode cX3_changedByMove 7 = .ok (.iload_n 2, 1) := by decide +kernel
theorem dX3_changedByMove_8 : decode cX3_changedByMove 8 = .ok (.invokevirtual 167, 3) := by decide +kernel
theorem dX3_changedByMove_11 : decode cX3_changedByMove 11 = .ok (.aload_n 0, 1) := by decide +kernel
theorem dX3_changedByMove_12 : decode cX3_changedByMove 12 = .ok (.iload_n 3, 1) := by decide +kernel
theorem dX3_changedByMove_13 : decode cX3_changedByMove 13 = .ok (.iload_n 2, 1) := by decide +kernel
theorem dX3_changedByMove_14 : decode cX3_changedByMove 14 = .ok (.invokevirtual 224, 3) := by decide +kernel
theorem dX3_changedByMove_17 : decode cX3_changedByMove 17 = .ok (.ireturn, 1) := by decide +kernel
theorem dX3_move_0 : decode cX3_move 0 = .ok (.aload_n 0, 1) := by decide +kernel
theorem dX3_move_1 : decode cX3_move 1 = .ok (.iload_n 1, 1) := by decide +kernel
theorem dX3_move_2 : decode cX3_move 2 = .ok (.invokevirtual 156, 3) := by decide +kernel
theorem dX3_move_5 : decode cX3_move 5 = .ok (.istore_n 3, 1) := by decide +kernel
theorem dX3_move_6 : decode cX3_move 6 = .ok (.aload_n 0, 1) := by decide +kernel
theorem dX3_move_7 : decode cX3_move 7 = .ok (.iload_n 2, 1) := by decide +kernel
theorem dX3_move_8 : decode cX3_move 8 = .ok (.invokevirtual 167, 3) := by decide +kernel
theorem dX3_move_11 : decode cX3_move 11 = .ok (.aload_n 0, 1) := by decide +kernel
theorem dX3_move_12 : decode cX3_move 12 = .ok (.iload_n 3, 1) := by decide +kernel
theorem dX3_move_13 : decode cX3_move 13 = .ok (.iload_n 2, 1) := by decide +kernel
theorem dX3_move_14 : decode cX3_move 14 = .ok (.invokevirtual 224, 3) := by decide +kernel
theorem dX3_move_17 : decode cX3_move 17 = .ok (.ifCond .eq 13, 3) := by decide +kernel
theorem dX3_move_20 : decode cX3_move 20 = .ok (.new 91, 3) := by decide +kernel
theorem dX3_move_23 : decode cX3_move 23 = .ok (.dup, 1) := by decide +kernel
theorem dX3_move_24 : decode cX3_move 24 = .ok (.ldc 227, 2) := by decide +kernel
theorem dX3_move_26 : decode cX3_move 26 = .ok (.invokespecial 95, 3) := by decide +kernel
theorem dX3_move_29 : decode cX3_move 29 = .ok (.athrow, 1) := by decide +kernel
theorem dX3_move_30 : decode cX3_move 30 = .ok (.aload_n 0, 1) := by decide +kernel
theorem dX3_move_31 : decode cX3_move 31 = .ok (.iload_n 3, 1) := by decide +kernel
theorem dX3_move_32 : decode cX3_move 32 = .ok (.iload_n 2, 1) := by decide +kernel
theorem dX3_move_33 : decode cX3_move 33 = .ok (.invokevirtual 150, 3) := by decide +kernel
theorem dX3_move_36 : decode cX3_move 36 = .ok (.iload_n 3, 1) := by decide +kernel
theorem dX3_move_37 : decode cX3_move 37 = .ok (.ireturn, 1) := by decide +kernel
theorem dX3_sortByHits_0 : decode cX3_sortByHits 0 = .ok (.iconst 0, 1) := by decide +kernel
theorem dX3_sortByHits_1 : decode cX3_sortByHits 1 = .ok (.istore_n 1, 1) := by decide +kernel
theorem dX3_sortByHits_2 : decode cX3_sortByHits 2 = .ok (.iconst 0, 1) := by decide +kernel
theorem dX3_sortByHits_3 : decode cX3_sortByHits 3 = .ok (.istore_n 2, 1) := by decide +kernel
theorem dX3_sortByHits_4 : decode cX3_sortByHits 4 = .ok (.iload_n 2, 1) := by decide +kernel
theorem dX3_sortByHits_5 : decode cX3_sortByHits 5 = .ok (.bipush 64, 2) := by decide +kernel
theorem dX3_sortByHits_7 : decode cX3_sortByHits 7 = .ok (.if_icmp .ge 24, 3) := by decide +kernel
theorem dX3_sortByHits_10 : decode cX3_sortByHits 10 = .ok (.aload_n 0, 1) := by decide +kernel
theorem dX3_sortByHits_11 : decode cX3_sortByHits 11 = .ok (.invokevirtual 229, 3) := by decide +kernel
theorem dX3_sortByHits_14 : decode cX3_sortByHits 14 = .ok (.istore_n 3, 1) := by decide +kernel
theorem dX3_sortByHits_15 : decode cX3_sortByHits 15 = .ok (.iload_n 3, 1) := by decide +kernel
theorem dX3_sortByHits_16 : decode cX3_sortByHits 16 = .ok (.ifCond .ne 5, 3) := by decide +kernel
theorem dX3_sortByHits_19 : decode cX3_sortByHits 19 = .ok (.iload_n 1, 1) := by decide +kernel
theorem dX3_sortByHits_20 : decode cX3_sortByHits 20 = .ok (.ireturn, 1) := by decide +kernel
theorem dX3_sortByHits_21 : decode cX3_sortByHits 21 = .ok (.iload_n 1, 1) := by decide +kernel
theorem dX3_sortByHits_22 : decode cX3_sortByHits 22 = .ok (.iload_n 3, 1) := by decide +kernel
theorem dX3_sortByHits_23 : decode cX3_sortByHits 23 = .ok (.iadd, 1) := by decide +kernel
theorem dX3_sortByHits_24 : decode cX3_sortByHits 24 = .ok (.istore_n 1, 1) := by decide +kernel
theorem dX3_sortByHits_25 : decode cX3_sortByHits 25 = .ok (.iinc 2 1, 3) := by decide +kernel
theorem dX3_sortByHits_28 : decode cX3_sortByHits 28 = .ok (.goto (-24), 3) := by decide +kernel
theorem dX3_sortByHits_31 : decode cX3_sortByHits 31 = .ok (.iload_n 1, 1) := by decide +kernel
theorem dX3_sortByHits_32 : decode cX3_sortByHits 32 = .ok (.ireturn, 1) := by decide +kernel
theorem dX3_changedByRange_0 : decode cX3_changedByRange 0 = .ok (.aload_n 0, 1) := by decide +kernel
theorem dX3_changedByRange_1 : decode cX3_changedByRange 1 = .ok (.iload_n 1, 1) := by decide +kernel
theorem dX3_changedByRange_2 : decode cX3_changedByRange 2 = .ok (.invokevirtual 50, 3) := by decide +kernel
theorem dX3_changedByRange_5 : decode cX3_changedByRange 5 = .ok (.iload_n 2, 1) := by decide +kernel
theorem dX3_changedByRange_6 : decode cX3_changedByRange 6 = .ok (.iload_n 3, 1) := by decide +kernel
theorem dX3_changedByRange_7 : decode cX3_changedByRange 7 = .ok (.invokestatic 54, 3) := by decide +kernel
theorem dX3_changedByRange_10 : decode cX3_changedByRange 10 = .ok (.aload_n 0, 1) := by decide +kernel
theorem dX3_changedByRange_11 : decode cX3_changedByRange 11 = .ok (.iload_n 1, 1) := by decide +kernel
theorem dX3_changedByRange_12 : decode cX3_changedByRange 12 = .ok (.iload_n 2, 1) := by decide +kernel
theorem dX3_changedByRange_13 : decode cX3_changedByRange 13 = .ok (.iload_n 3, 1) := by decide +kernel
theorem dX3_changedByRange_14 : decode cX3_changedByRange 14 = .ok (.invokestatic 66, 3) := by decide +kernel
theorem dX3_changedByRange_17 : decode cX3_changedByRange 17 = .ok (.invokevirtual 216, 3) := by decide +kernel
theorem dX3_changedByRange_20 : decode cX3_changedByRange 20 = .ok (.iconst 0, 1) := by decide +kernel
theorem dX3_changedByRange_21 : decode cX3_changedByRange 21 = .ok (.istore 4, 2) := by decide +kernel
theorem dX3_changedByRange_23 : decode cX3_changedByRange 23 = .ok (.iconst 0, 1) := by decide +kernel
theorem dX3_changedByRange_24 : decode cX3_changedByRange 24 = .ok (.istore 5, 2) := by decide +kernel
theorem dX3_changedByRange_26 : decode cX3_changedByRange 26 = .ok (.iload 5, 2) := by decide +kernel
theorem dX3_changedByRange_28 : decode cX3_changedByRange 28 = .ok (.bipush 9, 2) := by decide +kernel
theorem dX3_changedByRange_30 : decode cX3_changedByRange 30 = .ok (.if_icmp .ge 55, 3) := by decide +kernel
theorem dX3_changedByRange_33 : decode cX3_changedByRange 33 = .ok (.iconst 0, 1) := by decide +kernel
theorem dX3_changedByRange_34 : decode cX3_changedByRange 34 = .ok (.istore 6, 2) := by decide +kernel
theorem dX3_changedByRange_36 : decode cX3_changedByRange 36 = .ok (.iload 6, 2) := by decide +kernel
theorem dX3_changedByRange_38 : decode cX3_changedByRange 38 = .ok (.bipush 9, 2) := by decide +kernel
theorem dX3_changedByRange_40 : decode cX3_changedByRange 40 = .ok (.if_icmp .ge 39, 3) := by decide +kernel
theorem dX3_changedByRange_43 : decode cX3_changedByRange 43 = .ok (.aload_n 0, 1) := by decide +kernel
theorem dX3_changedByRange_44 : decode cX3_changedByRange 44 = .ok (.iload 5, 2) := by decide +kernel
theorem dX3_changedByRange_46 : decode cX3_changedByRange 46 = .ok (.invokevirtual 233, 3) := by decide +kernel
theorem dX3_changedByRange_49 : decode cX3_changedByRange 49 = .ok (.aload_n 0, 1) := by decide +kernel
theorem dX3_changedByRange_50 : decode cX3_changedByRange 50 = .ok (.iload 6, 2) := by decide +kernel
theorem dX3_changedByRange_52 : decode cX3_changedByRange 52 = .ok (.invokevirtual 233, 3) := by decide +kernel
theorem dX3_changedByRange_55 : decode cX3_changedByRange 55 = .ok (.if_icmp .eq 18, 3) := by decide +kernel
theorem dX3_changedByRange_58 : decode cX3_changedByRange 58 = .ok (.iload 4, 2) := by decide +kernel
theorem dX3_changedByRange_60 : decode cX3_changedByRange 60 = .ok (.aload_n 0, 1) := by decide +kernel
theorem dX3_changedByRange_61 : decode cX3_changedByRange 61 = .ok (.getfield 33, 3) := by decide +kernel
theorem dX3_changedByRange_64 : decode cX3_changedByRange 64 = .ok (.iload 5, 2) := by decide +kernel
theorem dX3_changedByRange_66 : decode cX3_changedByRange 66 = .ok (.aaload, 1) := by decide +kernel
theorem dX3_changedByRange_67 : decode cX3_changedByRange 67 = .ok (.iload 6, 2) := by decide +kernel
theorem dX3_changedByRange_69 : decode cX3_changedByRange 69 = .ok (.iaload, 1) := by decide +kernel
theorem dX3_changedByRange_70 : decode cX3_changedByRange 70 = .ok (.iadd, 1) := by decide +kernel
theorem dX3_changedByRange_71 : decode cX3_changedByRange 71 = .ok (.istore 4, 2) := by decide +kernel
theorem dX3_changedByRange_73 : decode cX3_changedByRange 73 = .ok (.iinc 6 1, 3) := by decide +kernel
theorem dX3_changedByRange_76 : decode cX3_changedByRange 76 = .ok (.goto (-40), 3) := by decide +kernel
theorem dX3_changedByRange_79 : decode cX3_changedByRange 79 = .ok (.iinc 5 1, 3) := by decide +kernel
theorem dX3_changedByRange_82 : decode cX3_changedByRange 82 = .ok (.goto (-56), 3) := by decide +kernel
theorem dX3_changedByRange_85 : decode cX3_changedByRange 85 = .ok (.iload 4, 2) := by decide +kernel
theorem dX3_changedByRange_87 : decode cX3_changedByRange 87 = .ok (.ireturn, 1) := by decide +kernel
theorem dX3_shadowedShare_0 : decode cX3_shadowedShare 0 = .ok (.aload_n 0, 1) := by decide +kernel
theorem dX3_shadowedShare_1 : decode cX3_shadowedShare 1 = .ok (.aload_n 0, 1) := by decide +kernel
theorem dX3_shadowedShare_2 : decode cX3_shadowedShare 2 = .ok (.getfield 116, 3) := by decide +kernel
theorem dX3_shadowedShare_5 : decode cX3_shadowedShare 5 = .ok (.invokevirtual 237, 3) := by decide +kernel
theorem dX3_shadowedShare_8 : decode cX3_shadowedShare 8 = .ok (.invokestatic 96, 3) := by decide +kernel
theorem dX3_shadowedShare_11 : decode cX3_shadowedShare 11 = .ok (.istore_n 1, 1) := by decide +kernel
theorem dX3_shadowedShare_12 : decode cX3_shadowedShare 12 = .ok (.iload_n 1, 1) := by decide +kernel
theorem dX3_shadowedShare_13 : decode cX3_shadowedShare 13 = .ok (.ifCond .ne 13, 3) := by decide +kernel
theorem dX3_shadowedShare_16 : decode cX3_shadowedShare 16 = .ok (.new 240, 3) := by decide +kernel
theorem dX3_shadowedShare_19 : decode cX3_shadowedShare 19 = .ok (.dup, 1) := by decide +kernel
theorem dX3_shadowedShare_20 : decode cX3_shadowedShare 20 = .ok (.ldc 242, 2) := by decide +kernel
theorem dX3_shadowedShare_22 : decode cX3_shadowedShare 22 = .ok (.invokespecial 244, 3) := by decide +kernel
theorem dX3_shadowedShare_25 : decode cX3_shadowedShare 25 = .ok (.athrow, 1) := by decide +kernel
theorem dX3_shadowedShare_26 : decode cX3_shadowedShare 26 = .ok (.iconst 0, 1) := by decide +kernel
theorem dX3_shadowedShare_27 : decode cX3_shadowedShare 27 = .ok (.istore_n 2, 1) := by decide +kernel
theorem dX3_shadowedShare_28 : decode cX3_shadowedShare 28 = .ok (.iconst 0, 1) := by decide +kernel
theorem dX3_shadowedShare_29 : decode cX3_shadowedShare 29 = .ok (.istore_n 3, 1) := by decide +kernel
theorem dX3_shadowedShare_30 : decode cX3_shadowedShare 30 = .ok (.iload_n 3, 1) := by decide +kernel
theorem dX3_shadowedShare_31 : decode cX3_shadowedShare 31 = .ok (.aload_n 0, 1) := by decide +kernel
theorem dX3_shadowedShare_32 : decode cX3_shadowedShare 32 = .ok (.getfield 116, 3) := by decide +kernel
theorem dX3_shadowedShare_35 : decode cX3_shadowedShare 35 = .ok (.if_icmp .ge 20, 3) := by decide +kernel
theorem dX3_shadowedShare_38 : decode cX3_shadowedShare 38 = .ok (.aload_n 0, 1) := by decide +kernel
theorem dX3_shadowedShare_39 : decode cX3_shadowedShare 39 = .ok (.iload_n 3, 1) := by decide +kernel
theorem dX3_shadowedShare_40 : decode cX3_shadowedShare 40 = .ok (.invokevirtual 219, 3) := by decide +kernel
theorem dX3_shadowedShare_43 : decode cX3_shadowedShare 43 = .ok (.ifCond .eq 6, 3) := by decide +kernel
theorem dX3_shadowedShare_46 : decode cX3_shadowedShare 46 = .ok (.iinc 2 1, 3) := by decide +kernel
theorem dX3_shadowedShare_49 : decode cX3_shadowedShare 49 = .ok (.iinc 3 1, 3) := by decide +kernel
theorem dX3_shadowedShare_52 : decode cX3_shadowedShare 52 = .ok (.goto (-22), 3) := by decide +kernel
theorem dX3_shadowedShare_55 : decode cX3_shadowedShare 55 = .ok (.iload_n 2, 1) := by decide +kernel
theorem dX3_shadowedShare_56 : decode cX3_shadowedShare 56 = .ok (.i2f, 1) := by decide +kernel
theorem dX3_shadowedShare_57 : decode cX3_shadowedShare 57 = .ok (.iload_n 1, 1) := by decide +kernel
theorem dX3_shadowedShare_58 : decode cX3_shadowedShare 58 = .ok (.i2f, 1) := by decide +kernel
theorem dX3_shadowedShare_59 : decode cX3_shadowedShare 59 = .ok (.fdiv, 1) := by decide +kernel
theorem dX3_shadowedShare_60 : decode cX3_shadowedShare 60 = .ok (.freturn, 1) := by decide +kernel
theorem dX3_meanHits_0 : decode cX3_meanHits 0 = .ok (.aload_n 0, 1) := by decide +kernel
theorem dX3_meanHits_1 : decode cX3_meanHits 1 = .ok (.getfield 116, 3) := by decide +kernel
theorem dX3_meanHits_4 : decode cX3_meanHits 4 = .ok (.ifCond .ne 13, 3) := by decide +kernel
theorem dX3_meanHits_7 : decode cX3_meanHits 7 = .ok (.new 240, 3) := by decide +kernel
theorem dX3_meanHits_10 : decode cX3_meanHits 10 = .ok (.dup, 1) := by decide +kernel
theorem dX3_meanHits_11 : decode cX3_meanHits 11 = .ok (.ldc 245, 2) := by decide +kernel
theorem dX3_meanHits_13 : decode cX3_meanHits 13 = .ok (.invokespecial 244, 3) := by decide +kernel
theorem dX3_meanHits_16 : decode cX3_meanHits 16 = .ok (.athrow, 1) := by decide +kernel
theorem dX3_meanHits_17 : decode cX3_meanHits 17 = .ok (.iconst 0, 1) := by decide +kernel
theorem dX3_meanHits_18 : decode cX3_meanHits 18 = .ok (.istore_n 1, 1) := by decide +kernel
theorem dX3_meanHits_19 : decode cX3_meanHits 19 = .ok (.iconst 0, 1) := by decide +kernel
theorem dX3_meanHits_20 : decode cX3_meanHits 20 = .ok (.istore_n 2, 1) := by decide +kernel
theorem dX3_meanHits_21 : decode cX3_meanHits 21 = .ok (.iload_n 2, 1) := by decide +kernel
theorem dX3_meanHits_22 : decode cX3_meanHits 22 = .ok (.aload_n 0, 1) := by decide +kernel
theorem dX3_meanHits_23 : decode cX3_meanHits 23 = .ok (.getfield 116, 3) := by decide +kernel
theorem dX3_meanHits_26 : decode cX3_meanHits 26 = .ok (.if_icmp .ge 21, 3) := by decide +kernel
theorem dX3_meanHits_29 : decode cX3_meanHits 29 = .ok (.iload_n 1, 1) := by decide +kernel
theorem dX3_meanHits_30 : decode cX3_meanHits 30 = .ok (.aload_n 0, 1) := by decide +kernel
theorem dX3_meanHits_31 : decode cX3_meanHits 31 = .ok (.getfield 17, 3) := by decide +kernel
theorem dX3_meanHits_34 : decode cX3_meanHits 34 = .ok (.iload_n 2, 1) := by decide +kernel
theorem dX3_meanHits_35 : decode cX3_meanHits 35 = .ok (.aaload, 1) := by decide +kernel
theorem dX3_meanHits_36 : decode cX3_meanHits 36 = .ok (.getfield 195, 3) := by decide +kernel
theorem dX3_meanHits_39 : decode cX3_meanHits 39 = .ok (.iadd, 1) := by decide +kernel
theorem dX3_meanHits_40 : decode cX3_meanHits 40 = .ok (.istore_n 1, 1) := by decide +kernel
theorem dX3_meanHits_41 : decode cX3_meanHits 41 = .ok (.iinc 2 1, 3) := by decide +kernel
theorem dX3_meanHits_44 : decode cX3_meanHits 44 = .ok (.goto (-23), 3) := by decide +kernel
theorem dX3_meanHits_47 : decode cX3_meanHits 47 = .ok (.iload_n 1, 1) := by decide +kernel
theorem dX3_meanHits_48 : decode cX3_meanHits 48 = .ok (.i2d, 1) := by decide +kernel
theorem dX3_meanHits_49 : decode cX3_meanHits 49 = .ok (.aload_n 0, 1) := by decide +kernel
theorem dX3_meanHits_50 : decode cX3_meanHits 50 = .ok (.getfield 116, 3) := by decide +kernel
theorem dX3_meanHits_53 : decode cX3_meanHits 53 = .ok (.i2d, 1) := by decide +kernel
theorem dX3_meanHits_54 : decode cX3_meanHits 54 = .ok (.ddiv, 1) := by decide +kernel
theorem dX3_meanHits_55 : decode cX3_meanHits 55 = .ok (.dreturn, 1) := by decide +kernel
theorem dX3_requireObject_0 : decode cX3_requireObject 0 = .ok (.iload_n 1, 1) := by decide +kernel
theorem dX3_requireObject_1 : decode cX3_requireObject 1 = .ok (.ifCond .lt 11, 3) := by decide +kernel
theorem dX3_requireObject_4 : decode cX3_requireObject 4 = .ok (.iload_n 1, 1) := by decide +kernel
theorem dX3_requireObject_5 : decode cX3_requireObject 5 = .ok (.aload_n 0, 1) := by decide +kernel
theorem dX3_requireObject_6 : decode cX3_requireObject 6 = .ok (.getfield 39, 3) := by decide +kernel
theorem dX3_requireObject_9 : decode cX3_requireObject 9 = .ok (.if_icmp .lt 13, 3) := by decide +kernel
theorem dX3_requireObject_12 : decode cX3_requireObject 12 = .ok (.new 125, 3) := by decide +kernel
theorem dX3_requireObject_15 : decode cX3_requireObject 15 = .ok (.dup, 1) := by decide +kernel
theorem dX3_requireObject_16 : decode cX3_requireObject 16 = .ok (.ldc 247, 2) := by decide +kernel
theorem dX3_requireObject_18 : decode cX3_requireObject 18 = .ok (.invokespecial 129, 3) := by decide +kernel
theorem dX3_requireObject_21 : decode cX3_requireObject 21 = .ok (.athrow, 1) := by decide +kernel
theorem dX3_requireObject_22 : decode cX3_requireObject 22 = .ok (.return_, 1) := by decide +kernel
theorem dX3_requireObjectOrNone_0 : decode cX3_requireObjectOrNone 0 = .ok (.iload_n 1, 1) := by decide +kernel
theorem dX3_requireObjectOrNone_1 : decode cX3_requireObjectOrNone 1 = .ok (.iconst (-1), 1) := by decide +kernel
theorem dX3_requireObjectOrNone_2 : decode cX3_requireObjectOrNone 2 = .ok (.if_icmp .eq 8, 3) := by decide +kernel
theorem dX3_requireObjectOrNone_5 : decode cX3_requireObjectOrNone 5 = .ok (.aload_n 0, 1) := by decide +kernel
theorem dX3_requireObjectOrNone_6 : decode cX3_requireObjectOrNone 6 = .ok (.iload_n 1, 1) := by decide +kernel
theorem dX3_requireObjectOrNone_7 : decode cX3_requireObjectOrNone 7 = .ok (.invokevirtual 50, 3) := by decide +kernel
theorem dX3_requireObjectOrNone_10 : decode cX3_requireObjectOrNone 10 = .ok (.return_, 1) := by decide +kernel
theorem dX3_requirePosition_0 : decode cX3_requirePosition 0 = .ok (.iload_n 1, 1) := by decide +kernel
theorem dX3_requirePosition_1 : decode cX3_requirePosition 1 = .ok (.ifCond .lt 11, 3) := by decide +kernel
theorem dX3_requirePosition_4 : decode cX3_requirePosition 4 = .ok (.iload_n 1, 1) := by decide +kernel
theorem dX3_requirePosition_5 : decode cX3_requirePosition 5 = .ok (.aload_n 0, 1) := by decide +kernel
theorem dX3_requirePosition_6 : decode cX3_requirePosition 6 = .ok (.getfield 116, 3) := by decide +kernel
theorem dX3_requirePosition_9 : decode cX3_requirePosition 9 = .ok (.if_icmp .lt 13, 3) := by decide +kernel
theorem dX3_requirePosition_12 : decode cX3_requirePosition 12 = .ok (.new 125, 3) := by decide +kernel
theorem dX3_requirePosition_15 : decode cX3_requirePosition 15 = .ok (.dup, 1) := by decide +kernel
theorem dX3_requirePosition_16 : decode cX3_requirePosition 16 = .ok (.ldc 127, 2) := by decide +kernel
theorem dX3_requirePosition_18 : decode cX3_requirePosition 18 = .ok (.invokespecial 129, 3) := by decide +kernel
theorem dX3_requirePosition_21 : decode cX3_requirePosition 21 = .ok (.athrow, 1) := by decide +kernel
theorem dX3_requirePosition_22 : decode cX3_requirePosition 22 = .ok (.return_, 1) := by decide +kernel
theorem dX3_requireRule_0 : decode cX3_requireRule 0 = .ok (.iconst 0, 1) := by decide +kernel
theorem dX3_requireRule_1 : decode cX3_requireRule 1 = .ok (.istore_n 2, 1) := by decide +kernel
theorem dX3_requireRule_2 : decode cX3_requireRule 2 = .ok (.iload_n 2, 1) := by decide +kernel
theorem dX3_requireRule_3 : decode cX3_requireRule 3 = .ok (.aload_n 0, 1) := by decide +kernel
theorem dX3_requireRule_4 : decode cX3_requireRule 4 = .ok (.getfield 116, 3) := by decide +kernel
theorem dX3_requireRule_7 : decode cX3_requireRule 7 = .ok (.if_icmp .ge 24, 3) := by decide +kernel
theorem dX3_requireRule_10 : decode cX3_requireRule 10 = .ok (.aload_n 0, 1) := by decide +kernel
theorem dX3_requireRule_11 : decode cX3_requireRule 11 = .ok (.getfield 17, 3) := by decide +kernel
theorem dX3_requireRule_14 : decode cX3_requireRule 14 = .ok (.iload_n 2, 1) := by decide +kernel
theorem dX3_requireRule_15 : decode cX3_requireRule 15 = .ok (.aaload, 1) := by decide +kernel
theorem dX3_requireRule_16 : decode cX3_requireRule 16 = .ok (.getfield 153, 3) := by decide +kernel
theorem dX3_requireRule_19 : decode cX3_requireRule 19 = .ok (.iload_n 1, 1) := by decide +kernel
theorem dX3_requireRule_20 : decode cX3_requireRule 20 = .ok (.if_icmp .ne 5, 3) := by decide +kernel
theorem dX3_requireRule_23 : decode cX3_requireRule 23 = .ok (.iload_n 2, 1) := by decide +kernel
theorem dX3_requireRule_24 : decode cX3_requireRule 24 = .ok (.ireturn, 1) := by decide +kernel
theorem dX3_requireRule_25 : decode cX3_requireRule 25 = .ok (.iinc 2 1, 3) := by decide +kernel
theorem dX3_requireRule_28 : decode cX3_requireRule 28 = .ok (.goto (-26), 3) := by decide +kernel
theorem dX3_requireRule_31 : decode cX3_requireRule 31 = .ok (.new 104, 3) := by decide +kernel
theorem dX3_requireRule_34 : decode cX3_requireRule 34 = .ok (.dup, 1) := by decide +kernel
theorem dX3_requireRule_35 : decode cX3_requireRule 35 = .ok (.ldc 249, 2) := by decide +kernel
theorem dX3_requireRule_37 : decode cX3_requireRule 37 = .ok (.invokespecial 108, 3) := by decide +kernel
theorem dX3_requireRule_40 : decode cX3_requireRule 40 = .ok (.athrow, 1) := by decide +kernel
theorem dX3_requireValue_0 : decode cX3_requireValue 0 = .ok (.iload_n 0, 1) := by decide +kernel
theorem dX3_requireValue_1 : decode cX3_requireValue 1 = .ok (.ifCond .lt 9, 3) := by decide +kernel
theorem dX3_requireValue_4 : decode cX3_requireValue 4 = .ok (.iload_n 0, 1) := by decide +kernel
theorem dX3_requireValue_5 : decode cX3_requireValue 5 = .ok (.bipush 32, 2) := by decide +kernel
theorem dX3_requireValue_7 : decode cX3_requireValue 7 = .ok (.if_icmp .lt 13, 3) := by decide +kernel
theorem dX3_requireValue_10 : decode cX3_requireValue 10 = .ok (.new 82, 3) := by decide +kernel
theorem dX3_requireValue_13 : decode cX3_requireValue 13 = .ok (.dup, 1) := by decide +kernel
theorem dX3_requireValue_14 : decode cX3_requireValue 14 = .ok (.ldc 251, 2) := by decide +kernel
theorem dX3_requireValue_16 : decode cX3_requireValue 16 = .ok (.invokespecial 86, 3) := by decide +kernel
theorem dX3_requireValue_19 : decode cX3_requireValue 19 = .ok (.athrow, 1) := by decide +kernel
theorem dX3_requireValue_20 : decode cX3_requireValue 20 = .ok (.return_, 1) := by decide +kernel
theorem dX3_requireRange_0 : decode cX3_requireRange 0 = .ok (.iload_n 0, 1) := by decide +kernel
theorem dX3_requireRange_1 : decode cX3_requireRange 1 = .ok (.invokestatic 113, 3) := by decide +kernel
theorem dX3_requireRange_4 : decode cX3_requireRange 4 = .ok (.iload_n 1, 1) := by decide +kernel
theorem dX3_requireRange_5 : decode cX3_requireRange 5 = .ok (.invokestatic 113, 3) := by decide +kernel
theorem dX3_requireRange_8 : decode cX3_requireRange 8 = .ok (.iload_n 1, 1) := by decide +kernel
theorem dX3_requireRange_9 : decode cX3_requireRange 9 = .ok (.iload_n 0, 1) := by decide +kernel
theorem dX3_requireRange_10 : decode cX3_requireRange 10 = .ok (.if_icmp .ge 13, 3) := by decide +kernel
theorem dX3_requireRange_13 : decode cX3_requireRange 13 = .ok (.new 82, 3) := by decide +kernel
theorem dX3_requireRange_16 : decode cX3_requireRange 16 = .ok (.dup, 1) := by decide +kernel
theorem dX3_requireRange_17 : decode cX3_requireRange 17 = .ok (.ldc 253, 2) := by decide +kernel
theorem dX3_requireRange_19 : decode cX3_requireRange 19 = .ok (.invokespecial 86, 3) := by decide +kernel
theorem dX3_requireRange_22 : decode cX3_requireRange 22 = .ok (.athrow, 1) := by decide +kernel
theorem dX3_requireRange_23 : decode cX3_requireRange 23 = .ok (.return_, 1) := by decide +kernel
theorem dX3_requirePacket_0 : decode cX3_requirePacket 0 = .ok (.iload_n 0, 1) := by decide +kernel
theorem dX3_requirePacket_1 : decode cX3_requirePacket 1 = .ok (.invokestatic 113, 3) := by decide +kernel
theorem dX3_requirePacket_4 : decode cX3_requirePacket 4 = .ok (.iload_n 1, 1) := by decide +kernel
theorem dX3_requirePacket_5 : decode cX3_requirePacket 5 = .ok (.invokestatic 113, 3) := by decide +kernel
theorem dX3_requirePacket_8 : decode cX3_requirePacket 8 = .ok (.iload_n 2, 1) := by decide +kernel
theorem dX3_requirePacket_9 : decode cX3_requirePacket 9 = .ok (.invokestatic 113, 3) := by decide +kernel
theorem dX3_requirePacket_12 : decode cX3_requirePacket 12 = .ok (.return_, 1) := by decide +kernel
theorem dX3_requireOwner_0 : decode cX3_requireOwner 0 = .ok (.iload_n 0, 1) := by decide +kernel
theorem dX3_requireOwner_1 : decode cX3_requireOwner 1 = .ok (.ifCond .lt 9, 3) := by decide +kernel
theorem dX3_requireOwner_4 : decode cX3_requireOwner 4 = .ok (.iload_n 0, 1) := by decide +kernel
theorem dX3_requireOwner_5 : decode cX3_requireOwner 5 = .ok (.bipush 6, 2) := by decide +kernel
theorem dX3_requireOwner_7 : decode cX3_requireOwner 7 = .ok (.if_icmp .lt 13, 3) := by decide +kernel
theorem dX3_requireOwner_10 : decode cX3_requireOwner 10 = .ok (.new 82, 3) := by decide +kernel
theorem dX3_requireOwner_13 : decode cX3_requireOwner 13 = .ok (.dup, 1) := by decide +kernel
theorem dX3_requireOwner_14 : decode cX3_requireOwner 14 = .ok (.ldc 255, 2) := by decide +kernel
theorem dX3_requireOwner_16 : decode cX3_requireOwner 16 = .ok (.invokespecial 86, 3) := by decide +kernel
theorem dX3_requireOwner_19 : decode cX3_requireOwner 19 = .ok (.athrow, 1) := by decide +kernel
theorem dX3_requireOwner_20 : decode cX3_requireOwner 20 = .ok (.return_, 1) := by decide +kernel
theorem dX3_requireDays_0 : decode cX3_requireDays 0 = .ok (.iload_n 0, 1) := by decide +kernel
theorem dX3_requireDays_1 : decode cX3_requireDays 1 = .ok (.iconst 1, 1) := by decide +kernel
theorem dX3_requireDays_2 : decode cX3_requireDays 2 = .ok (.if_icmp .lt 9, 3) := by decide +kernel
theorem dX3_requireDays_5 : decode cX3_requireDays 5 = .ok (.iload_n 0, 1) := by decide +kernel
theorem dX3_requireDays_6 : decode cX3_requireDays 6 = .ok (.bipush 99, 2) := by decide +kernel
theorem dX3_requireDays_8 : decode cX3_requireDays 8 = .ok (.if_icmp .le 14, 3) := by decide +kernel
theorem dX3_requireDays_11 : decode cX3_requireDays 11 = .ok (.new 82, 3) := by decide +kernel
theorem dX3_requireDays_14 : decode cX3_requireDays 14 = .ok (.dup, 1) := by decide +kernel
theorem dX3_requireDays_15 : decode cX3_requireDays 15 = .ok (.ldc_w 257, 3) := by decide +kernel
theorem dX3_requireDays_18 : decode cX3_requireDays 18 = .ok (.invokespecial 86, 3) := by decide +kernel
theorem dX3_requireDays_21 : decode cX3_requireDays 21 = .ok (.athrow, 1) := by decide +kernel
theorem dX3_requireDays_22 : decode cX3_requireDays 22 = .ok (.return_, 1) := by decide +kernel
theorem dX3_contains_0 : decode cX3_contains 0 = .ok (.iload_n 0, 1) := by decide +kernel
theorem dX3_contains_1 : decode cX3_contains 1 = .ok (.iload_n 1, 1) := by decide +kernel
theorem dX3_contains_2 : decode cX3_contains 2 = .ok (.iushr, 1) := by decide +kernel
theorem dX3_contains_3 : decode cX3_contains 3 = .ok (.iconst 1, 1) := by decide +kernel
theorem dX3_contains_4 : decode cX3_contains 4 = .ok (.iand, 1) := by decide +kernel
theorem dX3_contains_5 : decode cX3_contains 5 = .ok (.ifCond .eq 7, 3) := by decide +kernel
theorem dX3_contains_8 : decode cX3_contains 8 = .ok (.iconst 1, 1) := by decide +kernel
theorem dX3_contains_9 : decode cX3_contains 9 = .ok (.goto 4, 3) := by decide +kernel
theorem dX3_contains_12 : decode cX3_contains 12 = .ok (.iconst 0, 1) := by decide +kernel
theorem dX3_contains_13 : decode cX3_contains 13 = .ok (.ireturn, 1) := by decide +kernel
theorem dX3_rangeOf_0 : decode cX3_rangeOf 0 = .ok (.iconst (-1), 1) := by decide +kernel
theorem dX3_rangeOf_1 : decode cX3_rangeOf 1 = .ok (.iload_n 0, 1) := by decide +kernel
theorem dX3_rangeOf_2 : decode cX3_rangeOf 2 = .ok (.ishl, 1) := by decide +kernel
theorem dX3_rangeOf_3 : decode cX3_rangeOf 3 = .ok (.iconst (-1), 1) := by decide +kernel
theorem dX3_rangeOf_4 : decode cX3_rangeOf 4 = .ok (.bipush 31, 2) := by decide +kernel
theorem dX3_rangeOf_6 : decode cX3_rangeOf 6 = .ok (.iload_n 1, 1) := by decide +kernel
theorem dX3_rangeOf_7 : decode cX3_rangeOf 7 = .ok (.isub, 1) := by decide +kernel
theorem dX3_rangeOf_8 : decode cX3_rangeOf 8 = .ok (.iushr, 1) := by decide +kernel
theorem dX3_rangeOf_9 : decode cX3_rangeOf 9 = .ok (.iand, 1) := by decide +kernel
theorem dX3_rangeOf_10 : decode cX3_rangeOf 10 = .ok (.ireturn, 1) := by decide +kernel
theorem dX3_valuesOf_0 : decode cX3_valuesOf 0 = .ok (.iload_n 2, 1) := by decide +kernel
theorem dX3_valuesOf_1 : decode cX3_valuesOf 1 = .ok (.bipush 8, 2) := by decide +kernel
theorem dX3_valuesOf_3 : decode cX3_valuesOf 3 = .ok (.if_icmp .lt 5, 3) := by decide +kernel
theorem dX3_valuesOf_6 : decode cX3_valuesOf 6 = .ok (.iconst 0, 1) := by decide +kernel
theorem dX3_valuesOf_7 : decode cX3_valuesOf 7 = .ok (.ireturn, 1) := by decide +kernel
theorem dX3_valuesOf_8 : decode cX3_valuesOf 8 = .ok (.aload_n 0, 1) := by decide +kernel
theorem dX3_valuesOf_9 : decode cX3_valuesOf 9 = .ok (.iload_n 1, 1) := by decide +kernel
theorem dX3_valuesOf_10 : decode cX3_valuesOf 10 = .ok (.aaload, 1) := by decide +kernel
theorem dX3_valuesOf_11 : decode cX3_valuesOf 11 = .ok (.invokevirtual 259, 3) := by decide +kernel
theorem dX3_valuesOf_14 : decode cX3_valuesOf 14 = .ok (.istore_n 3, 1) := by decide +kernel
theorem dX3_valuesOf_15 : decode cX3_valuesOf 15 = .ok (.iconst 0, 1) := by decide +kernel
theorem dX3_valuesOf_16 : decode cX3_valuesOf 16 = .ok (.istore 4, 2) := by decide +kernel
theorem dX3_valuesOf_18 : decode cX3_valuesOf 18 = .ok (.iload 4, 2) := by decide +kernel
theorem dX3_valuesOf_20 : decode cX3_valuesOf 20 = .ok (.bipush 8, 2) := by decide +kernel
theorem dX3_valuesOf_22 : decode cX3_valuesOf 22 = .ok (.if_icmp .ge 35, 3) := by decide +kernel
theorem dX3_valuesOf_25 : decode cX3_valuesOf 25 = .ok (.aload_n 0, 1) := by decide +kernel
theorem dX3_valuesOf_26 : decode cX3_valuesOf 26 = .ok (.iload_n 1, 1) := by decide +kernel
theorem dX3_valuesOf_27 : decode cX3_valuesOf 27 = .ok (.aaload, 1) := by decide +kernel
theorem dX3_valuesOf_28 : decode cX3_valuesOf 28 = .ok (.getfield 75, 3) := by decide +kernel
theorem dX3_valuesOf_31 : decode cX3_valuesOf 31 = .ok (.iload 4, 2) := by decide +kernel
theorem dX3_valuesOf_33 : decode cX3_valuesOf 33 = .ok (.invokestatic 78, 3) := by decide +kernel
theorem dX3_valuesOf_36 : decode cX3_valuesOf 36 = .ok (.ifCond .eq 15, 3) := by decide +kernel
theorem dX3_valuesOf_39 : decode cX3_valuesOf 39 = .ok (.iload_n 3, 1) := by decide +kernel
theorem dX3_valuesOf_40 : decode cX3_valuesOf 40 = .ok (.aload_n 0, 1) := by decide +kernel
theorem dX3_valuesOf_41 : decode cX3_valuesOf 41 = .ok (.iload 4, 2) := by decide +kernel
theorem dX3_valuesOf_43 : decode cX3_valuesOf 43 = .ok (.iload_n 2, 1) := by decide +kernel
theorem dX3_valuesOf_44 : decode cX3_valuesOf 44 = .ok (.iconst 1, 1) := by decide +kernel
theorem dX3_valuesOf_45 : decode cX3_valuesOf 45 = .ok (.iadd, 1) := by decide +kernel
theorem dX3_valuesOf_46 : decode cX3_valuesOf 46 = .ok (.invokestatic 109, 3) := by decide +kernel
theorem dX3_valuesOf_49 : decode cX3_valuesOf 49 = .ok (.ior, 1) := by decide +kernel
theorem dX3_valuesOf_50 : decode cX3_valuesOf 50 = .ok (.istore_n 3, 1) := by decide +kernel
theorem dX3_valuesOf_51 : decode cX3_valuesOf 51 = .ok (.iinc 4 1, 3) := by decide +kernel
theorem dX3_valuesOf_54 : decode cX3_valuesOf 54 = .ok (.goto (-36), 3) := by decide +kernel
theorem dX3_valuesOf_57 : decode cX3_valuesOf 57 = .ok (.iload_n 3, 1) := by decide +kernel
theorem dX3_valuesOf_58 : decode cX3_valuesOf 58 = .ok (.ireturn, 1) := by decide +kernel
theorem dX3_needs_0 : decode cX3_needs 0 = .ok (.iload_n 3, 1) := by decide +kernel
theorem dX3_needs_1 : decode cX3_needs 1 = .ok (.bipush 8, 2) := by decide +kernel
theorem dX3_needs_3 : decode cX3_needs 3 = .ok (.if_icmp .lt 5, 3) := by decide +kernel
theorem dX3_needs_6 : decode cX3_needs 6 = .ok (.iconst 0, 1) := by decide +kernel
theorem dX3_needs_7 : decode cX3_needs 7 = .ok (.ireturn, 1) := by decide +kernel
theorem dX3_needs_8 : decode cX3_needs 8 = .ok (.aload_n 0, 1) := by decide +kernel
theorem dX3_needs_9 : decode cX3_needs 9 = .ok (.iload_n 1, 1) := by decide +kernel
theorem dX3_needs_10 : decode cX3_needs 10 = .ok (.aaload, 1) := by decide +kernel
theorem dX3_needs_11 : decode cX3_needs 11 = .ok (.getfield 75, 3) := by decide +kernel
theorem dX3_needs_14 : decode cX3_needs 14 = .ok (.istore 4, 2) := by decide +kernel
theorem dX3_needs_16 : decode cX3_needs 16 = .ok (.iload 4, 2) := by decide +kernel
theorem dX3_needs_18 : decode cX3_needs 18 = .ok (.iload_n 2, 1) := by decide +kernel
theorem dX3_needs_19 : decode cX3_needs 19 = .ok (.invokestatic 78, 3) := by decide +kernel
theorem dX3_needs_22 : decode cX3_needs 22 = .ok (.ifCond .eq 5, 3) := by decide +kernel
theorem dX3_needs_25 : decode cX3_needs 25 = .ok (.iconst 1, 1) := by decide +kernel
theorem dX3_needs_26 : decode cX3_needs 26 = .ok (.ireturn, 1) := by decide +kernel
theorem dX3_needs_27 : decode cX3_needs 27 = .ok (.iconst 0, 1) := by decide +kernel
theorem dX3_needs_28 : decode cX3_needs 28 = .ok (.istore 5, 2) := by decide +kernel
theorem dX3_needs_30 : decode cX3_needs 30 = .ok (.iload 5, 2) := by decide +kernel
theorem dX3_needs_32 : decode cX3_needs 32 = .ok (.bipush 8, 2) := by decide +kernel
theorem dX3_needs_34 : decode cX3_needs 34 = .ok (.if_icmp .ge 34, 3) := by decide +kernel
theorem dX3_needs_37 : decode cX3_needs 37 = .ok (.iload 4, 2) := by decide +kernel
theorem dX3_needs_39 : decode cX3_needs 39 = .ok (.iload 5, 2) := by decide +kernel
theorem dX3_needs_41 : decode cX3_needs 41 = .ok (.invokestatic 78, 3) := by decide +kernel
theorem dX3_needs_44 : decode cX3_needs 44 = .ok (.ifCond .eq 18, 3) := by decide +kernel
theorem dX3_needs_47 : decode cX3_needs 47 = .ok (.aload_n 0, 1) := by decide +kernel
theorem dX3_needs_48 : decode cX3_needs 48 = .ok (.iload 5, 2) := by decide +kernel
theorem dX3_needs_50 : decode cX3_needs 50 = .ok (.iload_n 2, 1) := by decide +kernel
theorem dX3_needs_51 : decode cX3_needs 51 = .ok (.iload_n 3, 1) := by decide +kernel
theorem dX3_needs_52 : decode cX3_needs 52 = .ok (.iconst 1, 1) := by decide +kernel
theorem dX3_needs_53 : decode cX3_needs 53 = .ok (.iadd, 1) := by decide +kernel
theorem dX3_needs_54 : decode cX3_needs 54 = .ok (.invokestatic 87, 3) := by decide +kernel
theorem dX3_needs_57 : decode cX3_needs 57 = .ok (.ifCond .eq 5, 3) := by decide +kernel
theorem dX3_needs_60 : decode cX3_needs 60 = .ok (.iconst 1, 1) := by decide +kernel
theorem dX3_needs_61 : decode cX3_needs 61 = .ok (.ireturn, 1) := by decide +kernel
theorem dX3_needs_62 : decode cX3_needs 62 = .ok (.iinc 5 1, 3) := by decide +kernel
theorem dX3_needs_65 : decode cX3_needs 65 = .ok (.goto (-35), 3) := by decide +kernel
theorem dX3_needs_68 : decode cX3_needs 68 = .ok (.iconst 0, 1) := by decide +kernel
theorem dX3_needs_69 : decode cX3_needs 69 = .ok (.ireturn, 1) := by decide +kernel
theorem dX3_isOrNeeds_0 : decode cX3_isOrNeeds 0 = .ok (.iload_n 1, 1) := by decide +kernel
theorem dX3_isOrNeeds_1 : decode cX3_isOrNeeds 1 = .ok (.iconst (-1), 1) := by decide +kernel
theorem dX3_isOrNeeds_2 : decode cX3_isOrNeeds 2 = .ok (.if_icmp .eq 25, 3) := by decide +kernel
theorem dX3_isOrNeeds_5 : decode cX3_isOrNeeds 5 = .ok (.iload_n 1, 1) := by decide +kernel
theorem dX3_isOrNeeds_6 : decode cX3_isOrNeeds 6 = .ok (.iload_n 2, 1) := by decide +kernel
theorem dX3_isOrNeeds_7 : decode cX3_isOrNeeds 7 = .ok (.if_icmp .eq 16, 3) := by decide +kernel
theorem dX3_isOrNeeds_10 : decode cX3_isOrNeeds 10 = .ok (.aload_n 0, 1) := by decide +kernel
theorem dX3_isOrNeeds_11 : decode cX3_isOrNeeds 11 = .ok (.getfield 11, 3) := by decide +kernel
theorem dX3_isOrNeeds_14 : decode cX3_isOrNeeds 14 = .ok (.iload_n 1, 1) := by decide +kernel
theorem dX3_isOrNeeds_15 : decode cX3_isOrNeeds 15 = .ok (.iload_n 2, 1) := by decide +kernel
theorem dX3_isOrNeeds_16 : decode cX3_isOrNeeds 16 = .ok (.iconst 0, 1) := by decide +kernel
theorem dX3_isOrNeeds_17 : decode cX3_isOrNeeds 17 = .ok (.invokestatic 87, 3) := by decide +kernel
theorem dX3_isOrNeeds_20 : decode cX3_isOrNeeds 20 = .ok (.ifCond .eq 7, 3) := by decide +kernel
theorem dX3_isOrNeeds_23 : decode cX3_isOrNeeds 23 = .ok (.iconst 1, 1) := by decide +kernel
theorem dX3_isOrNeeds_24 : decode cX3_isOrNeeds 24 = .ok (.goto 4, 3) := by decide +kernel
theorem dX3_isOrNeeds_27 : decode cX3_isOrNeeds 27 = .ok (.iconst 0, 1) := by decide +kernel
theorem dX3_isOrNeeds_28 : decode cX3_isOrNeeds 28 = .ok (.ireturn, 1) := by decide +kernel
theorem dX3_updateMatching_0 : decode cX3_updateMatching 0 = .ok (.iconst 0, 1) := by decide +kernel
theorem dX3_updateMatching_1 : decode cX3_updateMatching 1 = .ok (.istore_n 1, 1) := by decide +kernel
theorem dX3_updateMatching_2 : decode cX3_updateMatching 2 = .ok (.iload_n 1, 1) := by decide +kernel
theorem dX3_updateMatching_3 : decode cX3_updateMatching 3 = .ok (.aload_n 0, 1) := by decide +kernel
theorem dX3_updateMatching_4 : decode cX3_updateMatching 4 = .ok (.getfield 116, 3) := by decide +kernel
theorem dX3_updateMatching_7 : decode cX3_updateMatching 7 = .ok (.if_icmp .ge 63, 3) := by decide +kernel
theorem dX3_updateMatching_10 : decode cX3_updateMatching 10 = .ok (.aload_n 0, 1) := by decide +kernel
theorem dX3_updateMatching_11 : decode cX3_updateMatching 11 = .ok (.getfield 17, 3) := by decide +kernel
theorem dX3_updateMatching_14 : decode cX3_updateMatching 14 = .ok (.iload_n 1, 1) := by decide +kernel
theorem dX3_updateMatching_15 : decode cX3_updateMatching 15 = .ok (.aaload, 1) := by decide +kernel
theorem dX3_updateMatching_16 : decode cX3_updateMatching 16 = .ok (.astore_n 2, 1) := by decide +kernel
theorem dX3_updateMatching_17 : decode cX3_updateMatching 17 = .ok (.iconst 0, 1) := by decide +kernel
theorem dX3_updateMatching_18 : decode cX3_updateMatching 18 = .ok (.istore_n 3, 1) := by decide +kernel
theorem dX3_updateMatching_19 : decode cX3_updateMatching 19 = .ok (.iload_n 3, 1) := by decide +kernel
theorem dX3_updateMatching_20 : decode cX3_updateMatching 20 = .ok (.iconst 3, 1) := by decide +kernel
theorem dX3_updateMatching_21 : decode cX3_updateMatching 21 = .ok (.if_icmp .ge 43, 3) := by decide +kernel
theorem dX3_updateMatching_24 : decode cX3_updateMatching 24 = .ok (.aload_n 2, 1) := by decide +kernel
theorem dX3_updateMatching_25 : decode cX3_updateMatching 25 = .ok (.getfield 119, 3) := by decide +kernel
theorem dX3_updateMatching_28 : decode cX3_updateMatching 28 = .ok (.iload_n 3, 1) := by decide +kernel
theorem dX3_updateMatching_29 : decode cX3_updateMatching 29 = .ok (.iaload, 1) := by decide +kernel
theorem dX3_updateMatching_30 : decode cX3_updateMatching 30 = .ok (.istore 4, 2) := by decide +kernel
theorem dX3_updateMatching_32 : decode cX3_updateMatching 32 = .ok (.aload_n 2, 1) := by decide +kernel
theorem dX3_updateMatching_33 : decode cX3_updateMatching 33 = .ok (.getfield 262, 3) := by decide +kernel
theorem dX3_updateMatching_36 : decode cX3_updateMatching 36 = .ok (.iload_n 3, 1) := by decide +kernel
theorem dX3_updateMatching_37 : decode cX3_updateMatching 37 = .ok (.iload 4, 2) := by decide +kernel
theorem dX3_updateMatching_39 : decode cX3_updateMatching 39 = .ok (.iconst (-1), 1) := by decide +kernel
theorem dX3_updateMatching_40 : decode cX3_updateMatching 40 = .ok (.if_icmp .ne 7, 3) := by decide +kernel
theorem dX3_updateMatching_43 : decode cX3_updateMatching 43 = .ok (.iconst (-1), 1) := by decide +kernel
theorem dX3_updateMatching_44 : decode cX3_updateMatching 44 = .ok (.goto 13, 3) := by decide +kernel
theorem dX3_updateMatching_47 : decode cX3_updateMatching 47 = .ok (.aload_n 0, 1) := by decide +kernel
theorem dX3_updateMatching_48 : decode cX3_updateMatching 48 = .ok (.getfield 11, 3) := by decide +kernel
theorem dX3_updateMatching_51 : decode cX3_updateMatching 51 = .ok (.iload 4, 2) := by decide +kernel
theorem dX3_updateMatching_53 : decode cX3_updateMatching 53 = .ok (.iconst 0, 1) := by decide +kernel
theorem dX3_updateMatching_54 : decode cX3_updateMatching 54 = .ok (.invokestatic 109, 3) := by decide +kernel
theorem dX3_updateMatching_57 : decode cX3_updateMatching 57 = .ok (.iastore, 1) := by decide +kernel
theorem dX3_updateMatching_58 : decode cX3_updateMatching 58 = .ok (.iinc 3 1, 3) := by decide +kernel
theorem dX3_updateMatching_61 : decode cX3_updateMatching 61 = .ok (.goto (-42), 3) := by decide +kernel
theorem dX3_updateMatching_64 : decode cX3_updateMatching 64 = .ok (.iinc 1 1, 3) := by decide +kernel
theorem dX3_updateMatching_67 : decode cX3_updateMatching 67 = .ok (.goto (-65), 3) := by decide +kernel
theorem dX3_updateMatching_70 : decode cX3_updateMatching 70 = .ok (.return_, 1) := by decide +kernel
theorem dX3_deciding_0 : decode cX3_deciding 0 = .ok (.iconst 0, 1) := by decide +kernel
theorem dX3_deciding_1 : decode cX3_deciding 1 = .ok (.istore 4, 2) := by decide +kernel
theorem dX3_deciding_3 : decode cX3_deciding 3 = .ok (.iload 4, 2) := by decide +kernel
theorem dX3_deciding_5 : decode cX3_deciding 5 = .ok (.aload_n 0, 1) := by decide +kernel
theorem dX3_deciding_6 : decode cX3_deciding 6 = .ok (.getfield 116, 3) := by decide +kernel
theorem dX3_deciding_9 : decode cX3_deciding 9 = .ok (.if_icmp .ge 45, 3) := by decide +kernel
theorem dX3_deciding_12 : decode cX3_deciding 12 = .ok (.aload_n 0, 1) := by decide +kernel
theorem dX3_deciding_13 : decode cX3_deciding 13 = .ok (.getfield 17, 3) := by decide +kernel
theorem dX3_deciding_16 : decode cX3_deciding 16 = .ok (.iload 4, 2) := by decide +kernel
theorem dX3_deciding_18 : decode cX3_deciding 18 = .ok (.aaload, 1) := by decide +kernel
theorem dX3_deciding_19 : decode cX3_deciding 19 = .ok (.aload_n 0, 1) := by decide +kernel
theorem dX3_deciding_20 : decode cX3_deciding 20 = .ok (.getfield 143, 3) := by decide +kernel
theorem dX3_deciding_23 : decode cX3_deciding 23 = .ok (.invokevirtual 170, 3) := by decide +kernel
theorem dX3_deciding_26 : decode cX3_deciding 26 = .ok (.ifCond .eq 22, 3) := by decide +kernel
theorem dX3_deciding_29 : decode cX3_deciding 29 = .ok (.aload_n 0, 1) := by decide +kernel
theorem dX3_deciding_30 : decode cX3_deciding 30 = .ok (.getfield 17, 3) := by decide +kernel
theorem dX3_deciding_33 : decode cX3_deciding 33 = .ok (.iload 4, 2) := by decide +kernel
theorem dX3_deciding_35 : decode cX3_deciding 35 = .ok (.aaload, 1) := by decide +kernel
theorem dX3_deciding_36 : decode cX3_deciding 36 = .ok (.iload_n 1, 1) := by decide +kernel
theorem dX3_deciding_37 : decode cX3_deciding 37 = .ok (.iload_n 2, 1) := by decide +kernel
theorem dX3_deciding_38 : decode cX3_deciding 38 = .ok (.iload_n 3, 1) := by decide +kernel
theorem dX3_deciding_39 : decode cX3_deciding 39 = .ok (.invokevirtual 265, 3) := by decide +kernel
theorem dX3_deciding_42 : decode cX3_deciding 42 = .ok (.ifCond .eq 6, 3) := by decide +kernel
theorem dX3_deciding_45 : decode cX3_deciding 45 = .ok (.iload 4, 2) := by decide +kernel
theorem dX3_deciding_47 : decode cX3_deciding 47 = .ok (.ireturn, 1) := by decide +kernel
theorem dX3_deciding_48 : decode cX3_deciding 48 = .ok (.iinc 4 1, 3) := by decide +kernel
theorem dX3_deciding_51 : decode cX3_deciding 51 = .ok (.goto (-48), 3) := by decide +kernel
theorem dX3_deciding_54 : decode cX3_deciding 54 = .ok (.iconst (-1), 1) := by decide +kernel
theorem dX3_deciding_55 : decode cX3_deciding 55 = .ok (.ireturn, 1) := by decide +kernel
theorem dX3_actionOf_0 : decode cX3_actionOf 0 = .ok (.iload_n 1, 1) := by decide +kernel
theorem dX3_actionOf_1 : decode cX3_actionOf 1 = .ok (.aload_n 0, 1) := by decide +kernel
theorem dX3_actionOf_2 : decode cX3_actionOf 2 = .ok (.getfield 116, 3) := by decide +kernel
theorem dX3_actionOf_5 : decode cX3_actionOf 5 = .ok (.if_icmp .ge 15, 3) := by decide +kernel
theorem dX3_actionOf_8 : decode cX3_actionOf 8 = .ok (.aload_n 0, 1) := by decide +kernel
theorem dX3_actionOf_9 : decode cX3_actionOf 9 = .ok (.getfield 17, 3) := by decide +kernel
theorem dX3_actionOf_12 : decode cX3_actionOf 12 = .ok (.iload_n 1, 1) := by decide +kernel
theorem dX3_actionOf_13 : decode cX3_actionOf 13 = .ok (.aaload, 1) := by decide +kernel
theorem dX3_actionOf_14 : decode cX3_actionOf 14 = .ok (.getfield 191, 3) := by decide +kernel
theorem dX3_actionOf_17 : decode cX3_actionOf 17 = .ok (.goto 5, 3) := by decide +kernel
theorem dX3_actionOf_20 : decode cX3_actionOf 20 = .ok (.bipush 100, 2) := by decide +kernel
theorem dX3_actionOf_22 : decode cX3_actionOf 22 = .ok (.ireturn, 1) := by decide +kernel
theorem dX3_packetsIn_0 : decode cX3_packetsIn 0 = .ok (.iload_n 0, 1) := by decide +kernel
theorem dX3_packetsIn_1 : decode cX3_packetsIn 1 = .ok (.invokestatic 96, 3) := by decide +kernel
theorem dX3_packetsIn_4 : decode cX3_packetsIn 4 = .ok (.iload_n 1, 1) := by decide +kernel
theorem dX3_packetsIn_5 : decode cX3_packetsIn 5 = .ok (.invokestatic 96, 3) := by decide +kernel
theorem dX3_packetsIn_8 : decode cX3_packetsIn 8 = .ok (.imul, 1) := by decide +kernel
theorem dX3_packetsIn_9 : decode cX3_packetsIn 9 = .ok (.iload_n 2, 1) := by decide +kernel
theorem dX3_packetsIn_10 : decode cX3_packetsIn 10 = .ok (.invokestatic 96, 3) := by decide +kernel
theorem dX3_packetsIn_13 : decode cX3_packetsIn 13 = .ok (.imul, 1) := by decide +kernel
theorem dX3_packetsIn_14 : decode cX3_packetsIn 14 = .ok (.ireturn, 1) := by decide +kernel
theorem dX3_packetsInBoth_0 : decode cX3_packetsInBoth 0 = .ok (.aload_n 0, 1) := by decide +kernel
theorem dX3_packetsInBoth_1 : decode cX3_packetsInBoth 1 = .ok (.getfield 262, 3) := by decide +kernel
theorem dX3_packetsInBoth_4 : decode cX3_packetsInBoth 4 = .ok (.iconst 0, 1) := by decide +kernel
theorem dX3_packetsInBoth_5 : decode cX3_packetsInBoth 5 = .ok (.iaload, 1) := by decide +kernel
theorem dX3_packetsInBoth_6 : decode cX3_packetsInBoth 6 = .ok (.aload_n 1, 1) := by decide +kernel
theorem dX3_packetsInBoth_7 : decode cX3_packetsInBoth 7 = .ok (.getfield 262, 3) := by decide +kernel
theorem dX3_packetsInBoth_10 : decode cX3_packetsInBoth 10 = .ok (.iconst 0, 1) := by decide +kernel
theorem dX3_packetsInBoth_11 : decode cX3_packetsInBoth 11 = .ok (.iaload, 1) := by decide +kernel
theorem dX3_packetsInBoth_12 : decode cX3_packetsInBoth 12 = .ok (.iand, 1) := by decide +kernel
theorem dX3_packetsInBoth_13 : decode cX3_packetsInBoth 13 = .ok (.aload_n 0, 1) := by decide +kernel
theorem dX3_packetsInBoth_14 : decode cX3_packetsInBoth 14 = .ok (.getfield 262, 3) := by decide +kernel
theorem dX3_packetsInBoth_17 : decode cX3_packetsInBoth 17 = .ok (.iconst 1, 1) := by decide +kernel
theorem dX3_packetsInBoth_18 : decode cX3_packetsInBoth 18 = .ok (.iaload, 1) := by decide +kernel
theorem dX3_packetsInBoth_19 : decode cX3_packetsInBoth 19 = .ok (.aload_n 1, 1) := by decide +kernel
theorem dX3_packetsInBoth_20 : decode cX3_packetsInBoth 20 = .ok (.getfield 262, 3) := by decide +kernel
theorem dX3_packetsInBoth_23 : decode cX3_packetsInBoth 23 = .ok (.iconst 1, 1) := by decide +kernel
theorem dX3_packetsInBoth_24 : decode cX3_packetsInBoth 24 = .ok (.iaload, 1) := by decide +kernel
theorem dX3_packetsInBoth_25 : decode cX3_packetsInBoth 25 = .ok (.iand, 1) := by decide +kernel
theorem dX3_packetsInBoth_26 : decode cX3_packetsInBoth 26 = .ok (.aload_n 0, 1) := by decide +kernel
theorem dX3_packetsInBoth_27 : decode cX3_packetsInBoth 27 = .ok (.getfield 262, 3) := by decide +kernel
theorem dX3_packetsInBoth_30 : decode cX3_packetsInBoth 30 = .ok (.iconst 2, 1) := by decide +kernel
theorem dX3_packetsInBoth_31 : decode cX3_packetsInBoth 31 = .ok (.iaload, 1) := by decide +kernel
theorem dX3_packetsInBoth_32 : decode cX3_packetsInBoth 32 = .ok (.aload_n 1, 1) := by decide +kernel
theorem dX3_packetsInBoth_33 : decode cX3_packetsInBoth 33 = .ok (.getfield 262, 3) := by decide +kernel
theorem dX3_packetsInBoth_36 : decode cX3_packetsInBoth 36 = .ok (.iconst 2, 1) := by decide +kernel
theorem dX3_packetsInBoth_37 : decode cX3_packetsInBoth 37 = .ok (.iaload, 1) := by decide +kernel
theorem dX3_packetsInBoth_38 : decode cX3_packetsInBoth 38 = .ok (.iand, 1) := by decide +kernel
theorem dX3_packetsInBoth_39 : decode cX3_packetsInBoth 39 = .ok (.invokestatic 269, 3) := by decide +kernel
theorem dX3_packetsInBoth_42 : decode cX3_packetsInBoth 42 = .ok (.ireturn, 1) := by decide +kernel
theorem dX3_inForceAhead_0 : decode cX3_inForceAhead 0 = .ok (.iconst 0, 1) := by decide +kernel
theorem dX3_inForceAhead_1 : decode cX3_inForceAhead 1 = .ok (.istore_n 2, 1) := by decide +kernel
theorem dX3_inForceAhead_2 : decode cX3_inForceAhead 2 = .ok (.iconst 0, 1) := by decide +kernel
theorem dX3_inForceAhead_3 : decode cX3_inForceAhead 3 = .ok (.istore_n 3, 1) := by decide +kernel
theorem dX3_inForceAhead_4 : decode cX3_inForceAhead 4 = .ok (.iload_n 3, 1) := by decide +kernel
theorem dX3_inForceAhead_5 : decode cX3_inForceAhead 5 = .ok (.iload_n 1, 1) := by decide +kernel
theorem dX3_inForceAhead_6 : decode cX3_inForceAhead 6 = .ok (.if_icmp .ge 31, 3) := by decide +kernel
theorem dX3_inForceAhead_9 : decode cX3_inForceAhead 9 = .ok (.aload_n 0, 1) := by decide +kernel
theorem dX3_inForceAhead_10 : decode cX3_inForceAhead 10 = .ok (.getfield 17, 3) := by decide +kernel
theorem dX3_inForceAhead_13 : decode cX3_inForceAhead 13 = .ok (.iload_n 3, 1) := by decide +kernel
theorem dX3_inForceAhead_14 : decode cX3_inForceAhead 14 = .ok (.aaload, 1) := by decide +kernel
theorem dX3_inForceAhead_15 : decode cX3_inForceAhead 15 = .ok (.aload_n 0, 1) := by decide +kernel
theorem dX3_inForceAhead_16 : decode cX3_inForceAhead 16 = .ok (.getfield 143, 3) := by decide +kernel
theorem dX3_inForceAhead_19 : decode cX3_inForceAhead 19 = .ok (.invokevirtual 170, 3) := by decide +kernel
theorem dX3_inForceAhead_22 : decode cX3_inForceAhead 22 = .ok (.ifCond .eq 9, 3) := by decide +kernel
theorem dX3_inForceAhead_25 : decode cX3_inForceAhead 25 = .ok (.iload_n 2, 1) := by decide +kernel
theorem dX3_inForceAhead_26 : decode cX3_inForceAhead 26 = .ok (.iconst 1, 1) := by decide +kernel
theorem dX3_inForceAhead_27 : decode cX3_inForceAhead 27 = .ok (.iload_n 3, 1) := by decide +kernel
theorem dX3_inForceAhead_28 : decode cX3_inForceAhead 28 = .ok (.ishl, 1) := by decide +kernel
theorem dX3_inForceAhead_29 : decode cX3_inForceAhead 29 = .ok (.ior, 1) := by decide +kernel
theorem dX3_inForceAhead_30 : decode cX3_inForceAhead 30 = .ok (.istore_n 2, 1) := by decide +kernel
theorem dX3_inForceAhead_31 : decode cX3_inForceAhead 31 = .ok (.iinc 3 1, 3) := by decide +kernel
theorem dX3_inForceAhead_34 : decode cX3_inForceAhead 34 = .ok (.goto (-30), 3) := by decide +kernel
theorem dX3_inForceAhead_37 : decode cX3_inForceAhead 37 = .ok (.iload_n 2, 1) := by decide +kernel
theorem dX3_inForceAhead_38 : decode cX3_inForceAhead 38 = .ok (.ireturn, 1) := by decide +kernel
theorem dX3_firstOf_0 : decode cX3_firstOf 0 = .ok (.iload_n 0, 1) := by decide +kernel
theorem dX3_firstOf_1 : decode cX3_firstOf 1 = .ok (.iload_n 0, 1) := by decide +kernel
theorem dX3_firstOf_2 : decode cX3_firstOf 2 = .ok (.ineg, 1) := by decide +kernel
theorem dX3_firstOf_3 : decode cX3_firstOf 3 = .ok (.iand, 1) := by decide +kernel
theorem dX3_firstOf_4 : decode cX3_firstOf 4 = .ok (.istore_n 1, 1) := by decide +kernel
theorem dX3_firstOf_5 : decode cX3_firstOf 5 = .ok (.iload_n 1, 1) := by decide +kernel
theorem dX3_firstOf_6 : decode cX3_firstOf 6 = .ok (.iconst 1, 1) := by decide +kernel
theorem dX3_firstOf_7 : decode cX3_firstOf 7 = .ok (.isub, 1) := by decide +kernel
theorem dX3_firstOf_8 : decode cX3_firstOf 8 = .ok (.invokestatic 96, 3) := by decide +kernel
theorem dX3_firstOf_11 : decode cX3_firstOf 11 = .ok (.bipush 8, 2) := by decide +kernel
theorem dX3_firstOf_13 : decode cX3_firstOf 13 = .ok (.invokestatic 272, 3) := by decide +kernel
theorem dX3_firstOf_16 : decode cX3_firstOf 16 = .ok (.ireturn, 1) := by decide +kernel
theorem dX3_leftOfBoth_0 : decode cX3_leftOfBoth 0 = .ok (.aload_n 0, 1) := by decide +kernel
theorem dX3_leftOfBoth_1 : decode cX3_leftOfBoth 1 = .ok (.getfield 17, 3) := by decide +kernel
theorem dX3_leftOfBoth_4 : decode cX3_leftOfBoth 4 = .ok (.iload_n 3, 1) := by decide +kernel
theorem dX3_leftOfBoth_5 : decode cX3_leftOfBoth 5 = .ok (.aload_n 1, 1) := by decide +kernel
theorem dX3_leftOfBoth_6 : decode cX3_leftOfBoth 6 = .ok (.getfield 262, 3) := by decide +kernel
theorem dX3_leftOfBoth_9 : decode cX3_leftOfBoth 9 = .ok (.iconst 0, 1) := by decide +kernel
theorem dX3_leftOfBoth_10 : decode cX3_leftOfBoth 10 = .ok (.iaload, 1) := by decide +kernel
theorem dX3_leftOfBoth_11 : decode cX3_leftOfBoth 11 = .ok (.aload_n 2, 1) := by decide +kernel
theorem dX3_leftOfBoth_12 : decode cX3_leftOfBoth 12 = .ok (.getfield 262, 3) := by decide +kernel
theorem dX3_leftOfBoth_15 : decode cX3_leftOfBoth 15 = .ok (.iconst 0, 1) := by decide +kernel
theorem dX3_leftOfBoth_16 : decode cX3_leftOfBoth 16 = .ok (.iaload, 1) := by decide +kernel
theorem dX3_leftOfBoth_17 : decode cX3_leftOfBoth 17 = .ok (.iand, 1) := by decide +kernel
theorem dX3_leftOfBoth_18 : decode cX3_leftOfBoth 18 = .ok (.aload_n 1, 1) := by decide +kernel
theorem dX3_leftOfBoth_19 : decode cX3_leftOfBoth 19 = .ok (.getfield 262, 3) := by decide +kernel
theorem dX3_leftOfBoth_22 : decode cX3_leftOfBoth 22 = .ok (.iconst 1, 1) := by decide +kernel
theorem dX3_leftOfBoth_23 : decode cX3_leftOfBoth 23 = .ok (.iaload, 1) := by decide +kernel
theorem dX3_leftOfBoth_24 : decode cX3_leftOfBoth 24 = .ok (.aload_n 2, 1) := by decide +kernel
theorem dX3_leftOfBoth_25 : decode cX3_leftOfBoth 25 = .ok (.getfield 262, 3) := by decide +kernel
theorem dX3_leftOfBoth_28 : decode cX3_leftOfBoth 28 = .ok (.iconst 1, 1) := by decide +kernel
theorem dX3_leftOfBoth_29 : decode cX3_leftOfBoth 29 = .ok (.iaload, 1) := by decide +kernel
theorem dX3_leftOfBoth_30 : decode cX3_leftOfBoth 30 = .ok (.iand, 1) := by decide +kernel
theorem dX3_leftOfBoth_31 : decode cX3_leftOfBoth 31 = .ok (.aload_n 1, 1) := by decide +kernel
theorem dX3_leftOfBoth_32 : decode cX3_leftOfBoth 32 = .ok (.getfield 262, 3) := by decide +kernel
theorem dX3_leftOfBoth_35 : decode cX3_leftOfBoth 35 = .ok (.iconst 2, 1) := by decide +kernel
theorem dX3_leftOfBoth_36 : decode cX3_leftOfBoth 36 = .ok (.iaload, 1) := by decide +kernel
theorem dX3_leftOfBoth_37 : decode cX3_leftOfBoth 37 = .ok (.aload_n 2, 1) := by decide +kernel
theorem dX3_leftOfBoth_38 : decode cX3_leftOfBoth 38 = .ok (.getfield 262, 3) := by decide +kernel
theorem dX3_leftOfBoth_41 : decode cX3_leftOfBoth 41 = .ok (.iconst 2, 1) := by decide +kernel
theorem dX3_leftOfBoth_42 : decode cX3_leftOfBoth 42 = .ok (.iaload, 1) := by decide +kernel
theorem dX3_leftOfBoth_43 : decode cX3_leftOfBoth 43 = .ok (.iand, 1) := by decide +kernel
theorem dX3_leftOfBoth_44 : decode cX3_leftOfBoth 44 = .ok (.invokestatic 277, 3) := by decide +kernel
theorem dX3_leftOfBoth_47 : decode cX3_leftOfBoth 47 = .ok (.ireturn, 1) := by decide +kernel
theorem dX3_leftOver_0 : decode cX3_leftOver 0 = .ok (.iload_n 2, 1) := by decide +kernel
theorem dX3_leftOver_1 : decode cX3_leftOver 1 = .ok (.ifCond .eq 12, 3) := by decide +kernel
theorem dX3_leftOver_4 : decode cX3_leftOver 4 = .ok (.iload_n 3, 1) := by decide +kernel
theorem dX3_leftOver_5 : decode cX3_leftOver 5 = .ok (.ifCond .eq 8, 3) := by decide +kernel
theorem dX3_leftOver_8 : decode cX3_leftOver 8 = .ok (.iload 4, 2) := by decide +kernel
theorem dX3_leftOver_10 : decode cX3_leftOver 10 = .ok (.ifCond .ne 5, 3) := by decide +kernel
theorem dX3_leftOver_13 : decode cX3_leftOver 13 = .ok (.iconst 0, 1) := by decide +kernel
theorem dX3_leftOver_14 : decode cX3_leftOver 14 = .ok (.ireturn, 1) := by decide +kernel
theorem dX3_leftOver_15 : decode cX3_leftOver 15 = .ok (.iload_n 1, 1) := by decide +kernel
theorem dX3_leftOver_16 : decode cX3_leftOver 16 = .ok (.invokestatic 281, 3) := by decide +kernel
theorem dX3_leftOver_19 : decode cX3_leftOver 19 = .ok (.istore 5, 2) := by decide +kernel
theorem dX3_leftOver_21 : decode cX3_leftOver 21 = .ok (.iload 5, 2) := by decide +kernel
theorem dX3_leftOver_23 : decode cX3_leftOver 23 = .ok (.bipush 8, 2) := by decide +kernel
theorem dX3_leftOver_25 : decode cX3_leftOver 25 = .ok (.if_icmp .lt 11, 3) := by decide +kernel
theorem dX3_leftOver_28 : decode cX3_leftOver 28 = .ok (.iload_n 2, 1) := by decide +kernel
theorem dX3_leftOver_29 : decode cX3_leftOver 29 = .ok (.iload_n 3, 1) := by decide +kernel
theorem dX3_leftOver_30 : decode cX3_leftOver 30 = .ok (.iload 4, 2) := by decide +kernel
theorem dX3_leftOver_32 : decode cX3_leftOver 32 = .ok (.invokestatic 269, 3) := by decide +kernel
theorem dX3_leftOver_35 : decode cX3_leftOver 35 = .ok (.ireturn, 1) := by decide +kernel
theorem dX3_leftOver_36 : decode cX3_leftOver 36 = .ok (.aload_n 0, 1) := by decide +kernel
theorem dX3_leftOver_37 : decode cX3_leftOver 37 = .ok (.iload 5, 2) := by decide +kernel
theorem dX3_leftOver_39 : decode cX3_leftOver 39 = .ok (.aaload, 1) := by decide +kernel
theorem dX3_leftOver_40 : decode cX3_leftOver 40 = .ok (.getfield 262, 3) := by decide +kernel
theorem dX3_leftOver_43 : decode cX3_leftOver 43 = .ok (.astore 6, 2) := by decide +kernel
theorem dX3_leftOver_45 : decode cX3_leftOver 45 = .ok (.iload_n 1, 1) := by decide +kernel
theorem dX3_leftOver_46 : decode cX3_leftOver 46 = .ok (.iconst 1, 1) := by decide +kernel
theorem dX3_leftOver_47 : decode cX3_leftOver 47 = .ok (.iload 5, 2) := by decide +kernel
theorem dX3_leftOver_49 : decode cX3_leftOver 49 = .ok (.ishl, 1) := by decide +kernel
theorem dX3_leftOver_50 : decode cX3_leftOver 50 = .ok (.iconst (-1), 1) := by decide +kernel
theorem dX3_leftOver_51 : decode cX3_leftOver 51 = .ok (.ixor, 1) := by decide +kernel
theorem dX3_leftOver_52 : decode cX3_leftOver 52 = .ok (.iand, 1) := by decide +kernel
theorem dX3_leftOver_53 : decode cX3_leftOver 53 = .ok (.istore 7, 2) := by decide +kernel
theorem dX3_leftOver_55 : decode cX3_leftOver 55 = .ok (.iload_n 2, 1) := by decide +kernel
theorem dX3_leftOver_56 : decode cX3_leftOver 56 = .ok (.aload 6, 2) := by decide +kernel
theorem dX3_leftOver_58 : decode cX3_leftOver 58 = .ok (.iconst 0, 1) := by decide +kernel
theorem dX3_leftOver_59 : decode cX3_leftOver 59 = .ok (.iaload, 1) := by decide +kernel
theorem dX3_leftOver_60 : decode cX3_leftOver 60 = .ok (.iand, 1) := by decide +kernel
theorem dX3_leftOver_61 : decode cX3_leftOver 61 = .ok (.istore 8, 2) := by decide +kernel
theorem dX3_leftOver_63 : decode cX3_leftOver 63 = .ok (.iload_n 3, 1) := by decide +kernel
theorem dX3_leftOver_64 : decode cX3_leftOver 64 = .ok (.aload 6, 2) := by decide +kernel
theorem dX3_leftOver_66 : decode cX3_leftOver 66 = .ok (.iconst 1, 1) := by decide +kernel
theorem dX3_leftOver_67 : decode cX3_leftOver 67 = .ok (.iaload, 1) := by decide +kernel
theorem dX3_leftOver_68 : decode cX3_leftOver 68 = .ok (.iand, 1) := by decide +kernel
theorem dX3_leftOver_69 : decode cX3_leftOver 69 = .ok (.istore 9, 2) := by decide +kernel
theorem dX3_leftOver_71 : decode cX3_leftOver 71 = .ok (.aload_n 0, 1) := by decide +kernel
theorem dX3_leftOver_72 : decode cX3_leftOver 72 = .ok (.iload 7, 2) := by decide +kernel
theorem dX3_leftOver_74 : decode cX3_leftOver 74 = .ok (.iload_n 2, 1) := by decide +kernel
theorem dX3_leftOver_75 : decode cX3_leftOver 75 = .ok (.aload 6, 2) := by decide +kernel
theorem dX3_leftOver_77 : decode cX3_leftOver 77 = .ok (.iconst 0, 1) := by decide +kernel
theorem dX3_leftOver_78 : decode cX3_leftOver 78 = .ok (.iaload, 1) := by decide +kernel
theorem dX3_leftOver_79 : decode cX3_leftOver 79 = .ok (.iconst (-1), 1) := by decide +kernel
theorem dX3_leftOver_80 : decode cX3_leftOver 80 = .ok (.ixor, 1) := by decide +kernel
theorem dX3_leftOver_81 : decode cX3_leftOver 81 = .ok (.iand, 1) := by decide +kernel
theorem dX3_leftOver_82 : decode cX3_leftOver 82 = .ok (.iload_n 3, 1) := by decide +kernel
theorem dX3_leftOver_83 : decode cX3_leftOver 83 = .ok (.iload 4, 2) := by decide +kernel
theorem dX3_leftOver_85 : decode cX3_leftOver 85 = .ok (.invokestatic 277, 3) := by decide +kernel
theorem dX3_leftOver_88 : decode cX3_leftOver 88 = .ok (.aload_n 0, 1) := by decide +kernel
theorem dX3_leftOver_89 : decode cX3_leftOver 89 = .ok (.iload 7, 2) := by decide +kernel
theorem dX3_leftOver_91 : decode cX3_leftOver 91 = .ok (.iload 8, 2) := by decide +kernel
theorem dX3_leftOver_93 : decode cX3_leftOver 93 = .ok (.iload_n 3, 1) := by decide +kernel
theorem dX3_leftOver_94 : decode cX3_leftOver 94 = .ok (.aload 6, 2) := by decide +kernel
theorem dX3_leftOver_96 : decode cX3_leftOver 96 = .ok (.iconst 1, 1) := by decide +kernel
theorem dX3_leftOver_97 : decode cX3_leftOver 97 = .ok (.iaload, 1) := by decide +kernel
theorem dX3_leftOver_98 : decode cX3_leftOver 98 = .ok (.iconst (-1), 1) := by decide +kernel
theorem dX3_leftOver_99 : decode cX3_leftOver 99 = .ok (.ixor, 1) := by decide +kernel
theorem dX3_leftOver_100 : decode cX3_leftOver 100 = .ok (.iand, 1) := by decide +kernel
theorem dX3_leftOver_101 : decode cX3_leftOver 101 = .ok (.iload 4, 2) := by decide +kernel
theorem dX3_leftOver_103 : decode cX3_leftOver 103 = .ok (.invokestatic 277, 3) := by decide +kernel
theorem dX3_leftOver_106 : decode cX3_leftOver 106 = .ok (.iadd, 1) := by decide +kernel
theorem dX3_leftOver_107 : decode cX3_leftOver 107 = .ok (.aload_n 0, 1) := by decide +kernel
theorem dX3_leftOver_108 : decode cX3_leftOver 108 = .ok (.iload 7, 2) := by decide +kernel
theorem dX3_leftOver_110 : decode cX3_leftOver 110 = .ok (.iload 8, 2) := by decide +kernel
theorem dX3_leftOver_112 : decode cX3_leftOver 112 = .ok (.iload 9, 2) := by decide +kernel
theorem dX3_leftOver_114 : decode cX3_leftOver 114 = .ok (.iload 4, 2) := by decide +kernel
theorem dX3_leftOver_116 : decode cX3_leftOver 116 = .ok (.aload 6, 2) := by decide +kernel
theorem dX3_leftOver_118 : decode cX3_leftOver 118 = .ok (.iconst 2, 1) := by decide +kernel
theorem dX3_leftOver_119 : decode cX3_leftOver 119 = .ok (.iaload, 1) := by decide +kernel
theorem dX3_leftOver_120 : decode cX3_leftOver 120 = .ok (.iconst (-1), 1) := by decide +kernel
theorem dX3_leftOver_121 : decode cX3_leftOver 121 = .ok (.ixor, 1) := by decide +kernel
theorem dX3_leftOver_122 : decode cX3_leftOver 122 = .ok (.iand, 1) := by decide +kernel
theorem dX3_leftOver_123 : decode cX3_leftOver 123 = .ok (.invokestatic 277, 3) := by decide +kernel
theorem dX3_leftOver_126 : decode cX3_leftOver 126 = .ok (.iadd, 1) := by decide +kernel
theorem dX3_leftOver_127 : decode cX3_leftOver 127 = .ok (.ireturn, 1) := by decide +kernel
theorem dX3_decidedAt_0 : decode cX3_decidedAt 0 = .ok (.aload_n 0, 1) := by decide +kernel
theorem dX3_decidedAt_1 : decode cX3_decidedAt 1 = .ok (.getfield 17, 3) := by decide +kernel
theorem dX3_decidedAt_4 : decode cX3_decidedAt 4 = .ok (.iload_n 1, 1) := by decide +kernel
theorem dX3_decidedAt_5 : decode cX3_decidedAt 5 = .ok (.aaload, 1) := by decide +kernel
theorem dX3_decidedAt_6 : decode cX3_decidedAt 6 = .ok (.astore_n 2, 1) := by decide +kernel
theorem dX3_decidedAt_7 : decode cX3_decidedAt 7 = .ok (.aload_n 2, 1) := by decide +kernel
theorem dX3_decidedAt_8 : decode cX3_decidedAt 8 = .ok (.aload_n 0, 1) := by decide +kernel
theorem dX3_decidedAt_9 : decode cX3_decidedAt 9 = .ok (.getfield 143, 3) := by decide +kernel
theorem dX3_decidedAt_12 : decode cX3_decidedAt 12 = .ok (.invokevirtual 170, 3) := by decide +kernel
theorem dX3_decidedAt_15 : decode cX3_decidedAt 15 = .ok (.ifCond .eq 17, 3) := by decide +kernel
theorem dX3_decidedAt_18 : decode cX3_decidedAt 18 = .ok (.aload_n 0, 1) := by decide +kernel
theorem dX3_decidedAt_19 : decode cX3_decidedAt 19 = .ok (.aload_n 2, 1) := by decide +kernel
theorem dX3_decidedAt_20 : decode cX3_decidedAt 20 = .ok (.aload_n 2, 1) := by decide +kernel
theorem dX3_decidedAt_21 : decode cX3_decidedAt 21 = .ok (.aload_n 0, 1) := by decide +kernel
theorem dX3_decidedAt_22 : decode cX3_decidedAt 22 = .ok (.iload_n 1, 1) := by decide +kernel
theorem dX3_decidedAt_23 : decode cX3_decidedAt 23 = .ok (.invokevirtual 237, 3) := by decide +kernel
theorem dX3_decidedAt_26 : decode cX3_decidedAt 26 = .ok (.invokevirtual 284, 3) := by decide +kernel
theorem dX3_decidedAt_29 : decode cX3_decidedAt 29 = .ok (.goto 4, 3) := by decide +kernel
theorem dX3_decidedAt_32 : decode cX3_decidedAt 32 = .ok (.iconst 0, 1) := by decide +kernel
theorem dX3_decidedAt_33 : decode cX3_decidedAt 33 = .ok (.ireturn, 1) := by decide +kernel
theorem dX3_isShadowedAt_0 : decode cX3_isShadowedAt 0 = .ok (.aload_n 0, 1) := by decide +kernel
theorem dX3_isShadowedAt_1 : decode cX3_isShadowedAt 1 = .ok (.getfield 17, 3) := by decide +kernel
theorem dX3_isShadowedAt_4 : decode cX3_isShadowedAt 4 = .ok (.iload_n 1, 1) := by decide +kernel
theorem dX3_isShadowedAt_5 : decode cX3_isShadowedAt 5 = .ok (.aaload, 1) := by decide +kernel
theorem dX3_isShadowedAt_6 : decode cX3_isShadowedAt 6 = .ok (.aload_n 0, 1) := by decide +kernel
theorem dX3_isShadowedAt_7 : decode cX3_isShadowedAt 7 = .ok (.getfield 143, 3) := by decide +kernel
theorem dX3_isShadowedAt_10 : decode cX3_isShadowedAt 10 = .ok (.invokevirtual 170, 3) := by decide +kernel
theorem dX3_isShadowedAt_13 : decode cX3_isShadowedAt 13 = .ok (.ifCond .eq 15, 3) := by decide +kernel
theorem dX3_isShadowedAt_16 : decode cX3_isShadowedAt 16 = .ok (.aload_n 0, 1) := by decide +kernel
theorem dX3_isShadowedAt_17 : decode cX3_isShadowedAt 17 = .ok (.iload_n 1, 1) := by decide +kernel
theorem dX3_isShadowedAt_18 : decode cX3_isShadowedAt 18 = .ok (.invokevirtual 213, 3) := by decide +kernel
theorem dX3_isShadowedAt_21 : decode cX3_isShadowedAt 21 = .ok (.ifCond .ne 7, 3) := by decide +kernel
theorem dX3_isShadowedAt_24 : decode cX3_isShadowedAt 24 = .ok (.iconst 1, 1) := by decide +kernel
theorem dX3_isShadowedAt_25 : decode cX3_isShadowedAt 25 = .ok (.goto 4, 3) := by decide +kernel
theorem dX3_isShadowedAt_28 : decode cX3_isShadowedAt 28 = .ok (.iconst 0, 1) := by decide +kernel
theorem dX3_isShadowedAt_29 : decode cX3_isShadowedAt 29 = .ok (.ireturn, 1) := by decide +kernel
theorem dX3_tallyDeciders_0 : decode cX3_tallyDeciders 0 = .ok (.iconst 0, 1) := by decide +kernel
theorem dX3_tallyDeciders_1 : decode cX3_tallyDeciders 1 = .ok (.istore_n 3, 1) := by decide +kernel
theorem dX3_tallyDeciders_2 : decode cX3_tallyDeciders 2 = .ok (.iload_n 3, 1) := by decide +kernel
theorem dX3_tallyDeciders_3 : decode cX3_tallyDeciders 3 = .ok (.bipush 9, 2) := by decide +kernel
theorem dX3_tallyDeciders_5 : decode cX3_tallyDeciders 5 = .ok (.if_icmp .ge 19, 3) := by decide +kernel
theorem dX3_tallyDeciders_8 : decode cX3_tallyDeciders 8 = .ok (.aload_n 0, 1) := by decide +kernel
theorem dX3_tallyDeciders_9 : decode cX3_tallyDeciders 9 = .ok (.getfield 33, 3) := by decide +kernel
theorem dX3_tallyDeciders_12 : decode cX3_tallyDeciders 12 = .ok (.iload_n 3, 1) := by decide +kernel
theorem dX3_tallyDeciders_13 : decode cX3_tallyDeciders 13 = .ok (.aaload, 1) := by decide +kernel
theorem dX3_tallyDeciders_14 : decode cX3_tallyDeciders 14 = .ok (.iconst 0, 1) := by decide +kernel
theorem dX3_tallyDeciders_15 : decode cX3_tallyDeciders 15 = .ok (.invokestatic 288, 3) := by decide +kernel
theorem dX3_tallyDeciders_18 : decode cX3_tallyDeciders 18 = .ok (.iinc 3 1, 3) := by decide +kernel
theorem dX3_tallyDeciders_21 : decode cX3_tallyDeciders 21 = .ok (.goto (-19), 3) := by decide +kernel
theorem dX3_tallyDeciders_24 : decode cX3_tallyDeciders 24 = .ok (.iconst 0, 1) := by decide +kernel
theorem dX3_tallyDeciders_25 : decode cX3_tallyDeciders 25 = .ok (.istore_n 3, 1) := by decide +kernel
theorem dX3_tallyDeciders_26 : decode cX3_tallyDeciders 26 = .ok (.iload_n 3, 1) := by decide +kernel
theorem dX3_tallyDeciders_27 : decode cX3_tallyDeciders 27 = .ok (.iconst 3, 1) := by decide +kernel
theorem dX3_tallyDeciders_28 : decode cX3_tallyDeciders 28 = .ok (.if_icmp .ge 26, 3) := by decide +kernel
theorem dX3_tallyDeciders_31 : decode cX3_tallyDeciders 31 = .ok (.aload_n 0, 1) := by decide +kernel
theorem dX3_tallyDeciders_32 : decode cX3_tallyDeciders 32 = .ok (.iload_n 3, 1) := by decide +kernel
theorem dX3_tallyDeciders_33 : decode cX3_tallyDeciders 33 = .ok (.iload_n 1, 1) := by decide +kernel
theorem dX3_tallyDeciders_34 : decode cX3_tallyDeciders 34 = .ok (.iload_n 2, 1) := by decide +kernel
theorem dX3_tallyDeciders_35 : decode cX3_tallyDeciders 35 = .ok (.invokevirtual 294, 3) := by decide +kernel
theorem dX3_tallyDeciders_38 : decode cX3_tallyDeciders 38 = .ok (.aload_n 0, 1) := by decide +kernel
theorem dX3_tallyDeciders_39 : decode cX3_tallyDeciders 39 = .ok (.aload_n 0, 1) := by decide +kernel
theorem dX3_tallyDeciders_40 : decode cX3_tallyDeciders 40 = .ok (.getfield 23, 3) := by decide +kernel
theorem dX3_tallyDeciders_43 : decode cX3_tallyDeciders 43 = .ok (.iload_n 3, 1) := by decide +kernel
theorem dX3_tallyDeciders_44 : decode cX3_tallyDeciders 44 = .ok (.aaload, 1) := by decide +kernel
theorem dX3_tallyDeciders_45 : decode cX3_tallyDeciders 45 = .ok (.invokevirtual 297, 3) := by decide +kernel
theorem dX3_tallyDeciders_48 : decode cX3_tallyDeciders 48 = .ok (.iinc 3 1, 3) := by decide +kernel
theorem dX3_tallyDeciders_51 : decode cX3_tallyDeciders 51 = .ok (.goto (-25), 3) := by decide +kernel
theorem dX3_tallyDeciders_54 : decode cX3_tallyDeciders 54 = .ok (.aload_n 0, 1) := by decide +kernel
theorem dX3_tallyDeciders_55 : decode cX3_tallyDeciders 55 = .ok (.getfield 23, 3) := by decide +kernel
theorem dX3_tallyDeciders_58 : decode cX3_tallyDeciders 58 = .ok (.iconst 0, 1) := by decide +kernel
theorem dX3_tallyDeciders_59 : decode cX3_tallyDeciders 59 = .ok (.aaload, 1) := by decide +kernel
theorem dX3_tallyDeciders_60 : decode cX3_tallyDeciders 60 = .ok (.astore_n 3, 1) := by decide +kernel
theorem dX3_tallyDeciders_61 : decode cX3_tallyDeciders 61 = .ok (.aload_n 0, 1) := by decide +kernel
theorem dX3_tallyDeciders_62 : decode cX3_tallyDeciders 62 = .ok (.getfield 23, 3) := by decide +kernel
theorem dX3_tallyDeciders_65 : decode cX3_tallyDeciders 65 = .ok (.iconst 1, 1) := by decide +kernel
theorem dX3_tallyDeciders_66 : decode cX3_tallyDeciders 66 = .ok (.aaload, 1) := by decide +kernel
theorem dX3_tallyDeciders_67 : decode cX3_tallyDeciders 67 = .ok (.astore 4, 2) := by decide +kernel
theorem dX3_tallyDeciders_69 : decode cX3_tallyDeciders 69 = .ok (.iconst 0, 1) := by decide +kernel
theorem dX3_tallyDeciders_70 : decode cX3_tallyDeciders 70 = .ok (.istore 5, 2) := by decide +kernel
theorem dX3_tallyDeciders_72 : decode cX3_tallyDeciders 72 = .ok (.iload 5, 2) := by decide +kernel
theorem dX3_tallyDeciders_74 : decode cX3_tallyDeciders 74 = .ok (.aload_n 3, 1) := by decide +kernel
theorem dX3_tallyDeciders_75 : decode cX3_tallyDeciders 75 = .ok (.getfield 301, 3) := by decide +kernel
theorem dX3_tallyDeciders_78 : decode cX3_tallyDeciders 78 = .ok (.if_icmp .ge 73, 3) := by decide +kernel
theorem dX3_tallyDeciders_81 : decode cX3_tallyDeciders 81 = .ok (.iconst 0, 1) := by decide +kernel
theorem dX3_tallyDeciders_82 : decode cX3_tallyDeciders 82 = .ok (.istore 6, 2) := by decide +kernel
theorem dX3_tallyDeciders_84 : decode cX3_tallyDeciders 84 = .ok (.iload 6, 2) := by decide +kernel
theorem dX3_tallyDeciders_86 : decode cX3_tallyDeciders 86 = .ok (.aload 4, 2) := by decide +kernel
theorem dX3_tallyDeciders_88 : decode cX3_tallyDeciders 88 = .ok (.getfield 301, 3) := by decide +kernel
theorem dX3_tallyDeciders_91 : decode cX3_tallyDeciders 91 = .ok (.if_icmp .ge 54, 3) := by decide +kernel
theorem dX3_tallyDeciders_94 : decode cX3_tallyDeciders 94 = .ok (.aload_n 3, 1) := by decide +kernel
theorem dX3_tallyDeciders_95 : decode cX3_tallyDeciders 95 = .ok (.getfield 304, 3) := by decide +kernel
theorem dX3_tallyDeciders_98 : decode cX3_tallyDeciders 98 = .ok (.iload 5, 2) := by decide +kernel
theorem dX3_tallyDeciders_100 : decode cX3_tallyDeciders 100 = .ok (.iaload, 1) := by decide +kernel
theorem dX3_tallyDeciders_101 : decode cX3_tallyDeciders 101 = .ok (.aload 4, 2) := by decide +kernel
theorem dX3_tallyDeciders_103 : decode cX3_tallyDeciders 103 = .ok (.getfield 304, 3) := by decide +kernel
theorem dX3_tallyDeciders_106 : decode cX3_tallyDeciders 106 = .ok (.iload 6, 2) := by decide +kernel
theorem dX3_tallyDeciders_108 : decode cX3_tallyDeciders 108 = .ok (.iaload, 1) := by decide +kernel
theorem dX3_tallyDeciders_109 : decode cX3_tallyDeciders 109 = .ok (.iand, 1) := by decide +kernel
theorem dX3_tallyDeciders_110 : decode cX3_tallyDeciders 110 = .ok (.istore 7, 2) := by decide +kernel
theorem dX3_tallyDeciders_112 : decode cX3_tallyDeciders 112 = .ok (.iload 7, 2) := by decide +kernel
theorem dX3_tallyDeciders_114 : decode cX3_tallyDeciders 114 = .ok (.ifCond .eq 25, 3) := by decide +kernel
theorem dX3_tallyDeciders_117 : decode cX3_tallyDeciders 117 = .ok (.aload_n 0, 1) := by decide +kernel
theorem dX3_tallyDeciders_118 : decode cX3_tallyDeciders 118 = .ok (.iload 7, 2) := by decide +kernel
theorem dX3_tallyDeciders_120 : decode cX3_tallyDeciders 120 = .ok (.aload_n 3, 1) := by decide +kernel
theorem dX3_tallyDeciders_121 : decode cX3_tallyDeciders 121 = .ok (.getfield 307, 3) := by decide +kernel
theorem dX3_tallyDeciders_124 : decode cX3_tallyDeciders 124 = .ok (.iload 5, 2) := by decide +kernel
theorem dX3_tallyDeciders_126 : decode cX3_tallyDeciders 126 = .ok (.iaload, 1) := by decide +kernel
theorem dX3_tallyDeciders_127 : decode cX3_tallyDeciders 127 = .ok (.aload 4, 2) := by decide +kernel
theorem dX3_tallyDeciders_129 : decode cX3_tallyDeciders 129 = .ok (.getfield 307, 3) := by decide +kernel
theorem dX3_tallyDeciders_132 : decode cX3_tallyDeciders 132 = .ok (.iload 6, 2) := by decide +kernel
theorem dX3_tallyDeciders_134 : decode cX3_tallyDeciders 134 = .ok (.iaload, 1) := by decide +kernel
theorem dX3_tallyDeciders_135 : decode cX3_tallyDeciders 135 = .ok (.imul, 1) := by decide +kernel
theorem dX3_tallyDeciders_136 : decode cX3_tallyDeciders 136 = .ok (.invokevirtual 310, 3) := by decide +kernel
theorem dX3_tallyDeciders_139 : decode cX3_tallyDeciders 139 = .ok (.iinc 6 1, 3) := by decide +kernel
theorem dX3_tallyDeciders_142 : decode cX3_tallyDeciders 142 = .ok (.goto (-58), 3) := by decide +kernel
theorem dX3_tallyDeciders_145 : decode cX3_tallyDeciders 145 = .ok (.iinc 5 1, 3) := by decide +kernel
theorem dX3_tallyDeciders_148 : decode cX3_tallyDeciders 148 = .ok (.goto (-76), 3) := by decide +kernel
theorem dX3_tallyDeciders_151 : decode cX3_tallyDeciders 151 = .ok (.return_, 1) := by decide +kernel
theorem dX3_tallyServices_0 : decode cX3_tallyServices 0 = .ok (.aload_n 0, 1) := by decide +kernel
theorem dX3_tallyServices_1 : decode cX3_tallyServices 1 = .ok (.getfield 23, 3) := by decide +kernel
theorem dX3_tallyServices_4 : decode cX3_tallyServices 4 = .ok (.iconst 2, 1) := by decide +kernel
theorem dX3_tallyServices_5 : decode cX3_tallyServices 5 = .ok (.aaload, 1) := by decide +kernel
theorem dX3_tallyServices_6 : decode cX3_tallyServices 6 = .ok (.astore_n 3, 1) := by decide +kernel
theorem dX3_tallyServices_7 : decode cX3_tallyServices 7 = .ok (.iconst 0, 1) := by decide +kernel
theorem dX3_tallyServices_8 : decode cX3_tallyServices 8 = .ok (.istore 4, 2) := by decide +kernel
theorem dX3_tallyServices_10 : decode cX3_tallyServices 10 = .ok (.iload 4, 2) := by decide +kernel
theorem dX3_tallyServices_12 : decode cX3_tallyServices 12 = .ok (.aload_n 3, 1) := by decide +kernel
theorem dX3_tallyServices_13 : decode cX3_tallyServices 13 = .ok (.getfield 301, 3) := by decide +kernel
theorem dX3_tallyServices_16 : decode cX3_tallyServices 16 = .ok (.if_icmp .ge 63, 3) := by decide +kernel
theorem dX3_tallyServices_19 : decode cX3_tallyServices 19 = .ok (.iload_n 1, 1) := by decide +kernel
theorem dX3_tallyServices_20 : decode cX3_tallyServices 20 = .ok (.aload_n 3, 1) := by decide +kernel
theorem dX3_tallyServices_21 : decode cX3_tallyServices 21 = .ok (.getfield 304, 3) := by decide +kernel
theorem dX3_tallyServices_24 : decode cX3_tallyServices 24 = .ok (.iload 4, 2) := by decide +kernel
theorem dX3_tallyServices_26 : decode cX3_tallyServices 26 = .ok (.iaload, 1) := by decide +kernel
theorem dX3_tallyServices_27 : decode cX3_tallyServices 27 = .ok (.iand, 1) := by decide +kernel
theorem dX3_tallyServices_28 : decode cX3_tallyServices 28 = .ok (.istore 5, 2) := by decide +kernel
theorem dX3_tallyServices_30 : decode cX3_tallyServices 30 = .ok (.iload 5, 2) := by decide +kernel
theorem dX3_tallyServices_32 : decode cX3_tallyServices 32 = .ok (.sipush 255, 3) := by decide +kernel
theorem dX3_tallyServices_35 : decode cX3_tallyServices 35 = .ok (.iand, 1) := by decide +kernel
theorem dX3_tallyServices_36 : decode cX3_tallyServices 36 = .ok (.invokestatic 281, 3) := by decide +kernel
theorem dX3_tallyServices_39 : decode cX3_tallyServices 39 = .ok (.istore 6, 2) := by decide +kernel
theorem dX3_tallyServices_41 : decode cX3_tallyServices 41 = .ok (.iload 5, 2) := by decide +kernel
theorem dX3_tallyServices_43 : decode cX3_tallyServices 43 = .ok (.bipush 8, 2) := by decide +kernel
theorem dX3_tallyServices_45 : decode cX3_tallyServices 45 = .ok (.iushr, 1) := by decide +kernel
theorem dX3_tallyServices_46 : decode cX3_tallyServices 46 = .ok (.invokestatic 281, 3) := by decide +kernel
theorem dX3_tallyServices_49 : decode cX3_tallyServices 49 = .ok (.istore 7, 2) := by decide +kernel
theorem dX3_tallyServices_51 : decode cX3_tallyServices 51 = .ok (.aload_n 0, 1) := by decide +kernel
theorem dX3_tallyServices_52 : decode cX3_tallyServices 52 = .ok (.getfield 33, 3) := by decide +kernel
theorem dX3_tallyServices_55 : decode cX3_tallyServices 55 = .ok (.iload 6, 2) := by decide +kernel
theorem dX3_tallyServices_57 : decode cX3_tallyServices 57 = .ok (.aaload, 1) := by decide +kernel
theorem dX3_tallyServices_58 : decode cX3_tallyServices 58 = .ok (.iload 7, 2) := by decide +kernel
theorem dX3_tallyServices_60 : decode cX3_tallyServices 60 = .ok (.dup2, 1) := by decide +kernel
theorem dX3_tallyServices_61 : decode cX3_tallyServices 61 = .ok (.iaload, 1) := by decide +kernel
theorem dX3_tallyServices_62 : decode cX3_tallyServices 62 = .ok (.iload_n 2, 1) := by decide +kernel
theorem dX3_tallyServices_63 : decode cX3_tallyServices 63 = .ok (.aload_n 3, 1) := by decide +kernel
theorem dX3_tallyServices_64 : decode cX3_tallyServices 64 = .ok (.getfield 307, 3) := by decide +kernel
theorem dX3_tallyServices_67 : decode cX3_tallyServices 67 = .ok (.iload 4, 2) := by decide +kernel
theorem dX3_tallyServices_69 : decode cX3_tallyServices 69 = .ok (.iaload, 1) := by decide +kernel
theorem dX3_tallyServices_70 : decode cX3_tallyServices 70 = .ok (.imul, 1) := by decide +kernel
theorem dX3_tallyServices_71 : decode cX3_tallyServices 71 = .ok (.iadd, 1) := by decide +kernel
theorem dX3_tallyServices_72 : decode cX3_tallyServices 72 = .ok (.iastore, 1) := by decide +kernel
theorem dX3_tallyServices_73 : decode cX3_tallyServices 73 = .ok (.iinc 4 1, 3) := by decide +kernel
theorem dX3_tallyServices_76 : decode cX3_tallyServices 76 = .ok (.goto (-66), 3) := by decide +kernel
theorem dX3_tallyServices_79 : decode cX3_tallyServices 79 = .ok (.return_, 1) := by decide +kernel
theorem dX3_markValues_0 : decode cX3_markValues 0 = .ok (.aload_n 0, 1) := by decide +kernel
theorem dX3_markValues_1 : decode cX3_markValues 1 = .ok (.getfield 27, 3) := by decide +kernel
theorem dX3_markValues_4 : decode cX3_markValues 4 = .ok (.iconst 0, 1) := by decide +kernel
theorem dX3_markValues_5 : decode cX3_markValues 5 = .ok (.invokestatic 288, 3) := by decide +kernel
theorem dX3_markValues_8 : decode cX3_markValues 8 = .ok (.iconst 0, 1) := by decide +kernel
theorem dX3_markValues_9 : decode cX3_markValues 9 = .ok (.istore 4, 2) := by decide +kernel
theorem dX3_markValues_11 : decode cX3_markValues 11 = .ok (.iload 4, 2) := by decide +kernel
theorem dX3_markValues_13 : decode cX3_markValues 13 = .ok (.aload_n 0, 1) := by decide +kernel
theorem dX3_markValues_14 : decode cX3_markValues 14 = .ok (.getfield 116, 3) := by decide +kernel
theorem dX3_markValues_17 : decode cX3_markValues 17 = .ok (.if_icmp .ge 127, 3) := by decide +kernel
theorem dX3_markValues_20 : decode cX3_markValues 20 = .ok (.aload_n 0, 1) := by decide +kernel
theorem dX3_markValues_21 : decode cX3_markValues 21 = .ok (.getfield 17, 3) := by decide +kernel
theorem dX3_markValues_24 : decode cX3_markValues 24 = .ok (.iload 4, 2) := by decide +kernel
theorem dX3_markValues_26 : decode cX3_markValues 26 = .ok (.aaload, 1) := by decide +kernel
theorem dX3_markValues_27 : decode cX3_markValues 27 = .ok (.astore 5, 2) := by decide +kernel
theorem dX3_markValues_29 : decode cX3_markValues 29 = .ok (.aload 5, 2) := by decide +kernel
theorem dX3_markValues_31 : decode cX3_markValues 31 = .ok (.aload_n 0, 1) := by decide +kernel
theorem dX3_markValues_32 : decode cX3_markValues 32 = .ok (.getfield 143, 3) := by decide +kernel
theorem dX3_markValues_35 : decode cX3_markValues 35 = .ok (.invokevirtual 170, 3) := by decide +kernel
theorem dX3_markValues_38 : decode cX3_markValues 38 = .ok (.ifCond .eq 100, 3) := by decide +kernel
theorem dX3_markValues_41 : decode cX3_markValues 41 = .ok (.aload 5, 2) := by decide +kernel
theorem dX3_markValues_43 : decode cX3_markValues 43 = .ok (.getfield 262, 3) := by decide +kernel
theorem dX3_markValues_46 : decode cX3_markValues 46 = .ok (.iload_n 1, 1) := by decide +kernel
theorem dX3_markValues_47 : decode cX3_markValues 47 = .ok (.iaload, 1) := by decide +kernel
theorem dX3_markValues_48 : decode cX3_markValues 48 = .ok (.istore 6, 2) := by decide +kernel
theorem dX3_markValues_50 : decode cX3_markValues 50 = .ok (.iload 6, 2) := by decide +kernel
theorem dX3_markValues_52 : decode cX3_markValues 52 = .ok (.istore 7, 2) := by decide +kernel
theorem dX3_markValues_54 : decode cX3_markValues 54 = .ok (.iload_n 3, 1) := by decide +kernel
theorem dX3_markValues_55 : decode cX3_markValues 55 = .ok (.ifCond .eq 24, 3) := by decide +kernel
theorem dX3_markValues_58 : decode cX3_markValues 58 = .ok (.aload_n 0, 1) := by decide +kernel
theorem dX3_markValues_59 : decode cX3_markValues 59 = .ok (.aload 5, 2) := by decide +kernel
theorem dX3_markValues_61 : decode cX3_markValues 61 = .ok (.getfield 119, 3) := by decide +kernel
theorem dX3_markValues_64 : decode cX3_markValues 64 = .ok (.iload_n 1, 1) := by decide +kernel
theorem dX3_markValues_65 : decode cX3_markValues 65 = .ok (.iaload, 1) := by decide +kernel
theorem dX3_markValues_66 : decode cX3_markValues 66 = .ok (.iload_n 2, 1) := by decide +kernel
theorem dX3_markValues_67 : decode cX3_markValues 67 = .ok (.invokevirtual 122, 3) := by decide +kernel
theorem dX3_markValues_70 : decode cX3_markValues 70 = .ok (.ifCond .eq 9, 3) := by decide +kernel
theorem dX3_markValues_73 : decode cX3_markValues 73 = .ok (.iload 7, 2) := by decide +kernel
theorem dX3_markValues_75 : decode cX3_markValues 75 = .ok (.iload_n 3, 1) := by decide +kernel
theorem dX3_markValues_76 : decode cX3_markValues 76 = .ok (.ior, 1) := by decide +kernel
theorem dX3_markValues_77 : decode cX3_markValues 77 = .ok (.istore 7, 2) := by decide +kernel
theorem dX3_markValues_79 : decode cX3_markValues 79 = .ok (.iconst 0, 1) := by decide +kernel
theorem dX3_markValues_80 : decode cX3_markValues 80 = .ok (.istore 8, 2) := by decide +kernel
theorem dX3_markValues_82 : decode cX3_markValues 82 = .ok (.iload 8, 2) := by decide +kernel
theorem dX3_markValues_84 : decode cX3_markValues 84 = .ok (.bipush 32, 2) := by decide +kernel
theorem dX3_markValues_86 : decode cX3_markValues 86 = .ok (.if_icmp .ge 52, 3) := by decide +kernel
theorem dX3_markValues_89 : decode cX3_markValues 89 = .ok (.aload_n 0, 1) := by decide +kernel
theorem dX3_markValues_90 : decode cX3_markValues 90 = .ok (.getfield 27, 3) := by decide +kernel
theorem dX3_markValues_93 : decode cX3_markValues 93 = .ok (.iload 8, 2) := by decide +kernel
theorem dX3_markValues_95 : decode cX3_markValues 95 = .ok (.dup2, 1) := by decide +kernel
theorem dX3_markValues_96 : decode cX3_markValues 96 = .ok (.iaload, 1) := by decide +kernel
theorem dX3_markValues_97 : decode cX3_markValues 97 = .ok (.iload 6, 2) := by decide +kernel
theorem dX3_markValues_99 : decode cX3_markValues 99 = .ok (.iload 8, 2) := by decide +kernel
theorem dX3_markValues_101 : decode cX3_markValues 101 = .ok (.iushr, 1) := by decide +kernel
theorem dX3_markValues_102 : decode cX3_markValues 102 = .ok (.iconst 1, 1) := by decide +kernel
theorem dX3_markValues_103 : decode cX3_markValues 103 = .ok (.iand, 1) := by decide +kernel
theorem dX3_markValues_104 : decode cX3_markValues 104 = .ok (.iload 4, 2) := by decide +kernel
theorem dX3_markValues_106 : decode cX3_markValues 106 = .ok (.ishl, 1) := by decide +kernel
theorem dX3_markValues_107 : decode cX3_markValues 107 = .ok (.ior, 1) := by decide +kernel
theorem dX3_markValues_108 : decode cX3_markValues 108 = .ok (.iastore, 1) := by decide +kernel
theorem dX3_markValues_109 : decode cX3_markValues 109 = .ok (.aload_n 0, 1) := by decide +kernel
theorem dX3_markValues_110 : decode cX3_markValues 110 = .ok (.getfield 27, 3) := by decide +kernel
theorem dX3_markValues_113 : decode cX3_markValues 113 = .ok (.iload 8, 2) := by decide +kernel
theorem dX3_markValues_115 : decode cX3_markValues 115 = .ok (.dup2, 1) := by decide +kernel
theorem dX3_markValues_116 : decode cX3_markValues 116 = .ok (.iaload, 1) := by decide +kernel
theorem dX3_markValues_117 : decode cX3_markValues 117 = .ok (.iload 7, 2) := by decide +kernel
theorem dX3_markValues_119 : decode cX3_markValues 119 = .ok (.iload 8, 2) := by decide +kernel
theorem dX3_markValues_121 : decode cX3_markValues 121 = .ok (.iushr, 1) := by decide +kernel
theorem dX3_markValues_122 : decode cX3_markValues 122 = .ok (.iconst 1, 1) := by decide +kernel
theorem dX3_markValues_123 : decode cX3_markValues 123 = .ok (.iand, 1) := by decide +kernel
theorem dX3_markValues_124 : decode cX3_markValues 124 = .ok (.iload 4, 2) := by decide +kernel
theorem dX3_markValues_126 : decode cX3_markValues 126 = .ok (.bipush 8, 2) := by decide +kernel
theorem dX3_markValues_128 : decode cX3_markValues 128 = .ok (.iadd, 1) := by decide +kernel
theorem dX3_markValues_129 : decode cX3_markValues 129 = .ok (.ishl, 1) := by decide +kernel
theorem dX3_markValues_130 : decode cX3_markValues 130 = .ok (.ior, 1) := by decide +kernel
theorem dX3_markValues_131 : decode cX3_markValues 131 = .ok (.iastore, 1) := by decide +kernel
theorem dX3_markValues_132 : decode cX3_markValues 132 = .ok (.iinc 8 1, 3) := by decide +kernel
theorem dX3_markValues_135 : decode cX3_markValues 135 = .ok (.goto (-53), 3) := by decide +kernel
theorem dX3_markValues_138 : decode cX3_markValues 138 = .ok (.iinc 4 1, 3) := by decide +kernel
theorem dX3_markValues_141 : decode cX3_markValues 141 = .ok (.goto (-130), 3) := by decide +kernel
theorem dX3_markValues_144 : decode cX3_markValues 144 = .ok (.return_, 1) := by decide +kernel
theorem dX3_groupValues_0 : decode cX3_groupValues 0 = .ok (.aload_n 1, 1) := by decide +kernel
theorem dX3_groupValues_1 : decode cX3_groupValues 1 = .ok (.iconst 0, 1) := by decide +kernel
theorem dX3_groupValues_2 : decode cX3_groupValues 2 = .ok (.putfield 301, 3) := by decide +kernel
theorem dX3_groupValues_5 : decode cX3_groupValues 5 = .ok (.iconst 0, 1) := by decide +kernel
theorem dX3_groupValues_6 : decode cX3_groupValues 6 = .ok (.istore_n 2, 1) := by decide +kernel
theorem dX3_groupValues_7 : decode cX3_groupValues 7 = .ok (.iload_n 2, 1) := by decide +kernel
theorem dX3_groupValues_8 : decode cX3_groupValues 8 = .ok (.bipush 32, 2) := by decide +kernel
theorem dX3_groupValues_10 : decode cX3_groupValues 10 = .ok (.if_icmp .ge 19, 3) := by decide +kernel
theorem dX3_groupValues_13 : decode cX3_groupValues 13 = .ok (.aload_n 1, 1) := by decide +kernel
theorem dX3_groupValues_14 : decode cX3_groupValues 14 = .ok (.aload_n 0, 1) := by decide +kernel
theorem dX3_groupValues_15 : decode cX3_groupValues 15 = .ok (.getfield 27, 3) := by decide +kernel
theorem dX3_groupValues_18 : decode cX3_groupValues 18 = .ok (.iload_n 2, 1) := by decide +kernel
theorem dX3_groupValues_19 : decode cX3_groupValues 19 = .ok (.iaload, 1) := by decide +kernel
theorem dX3_groupValues_20 : decode cX3_groupValues 20 = .ok (.invokevirtual 313, 3) := by decide +kernel
theorem dX3_groupValues_23 : decode cX3_groupValues 23 = .ok (.iinc 2 1, 3) := by decide +kernel
theorem dX3_groupValues_26 : decode cX3_groupValues 26 = .ok (.goto (-19), 3) := by decide +kernel
theorem dX3_groupValues_29 : decode cX3_groupValues 29 = .ok (.return_, 1) := by decide +kernel
theorem dX3_shift_0 : decode cX3_shift 0 = .ok (.aload_n 0, 1) := by decide +kernel
theorem dX3_shift_1 : decode cX3_shift 1 = .ok (.getfield 17, 3) := by decide +kernel
theorem dX3_shift_4 : decode cX3_shift 4 = .ok (.iload_n 1, 1) := by decide +kernel
theorem dX3_shift_5 : decode cX3_shift 5 = .ok (.aaload, 1) := by decide +kernel
theorem dX3_shift_6 : decode cX3_shift 6 = .ok (.astore_n 3, 1) := by decide +kernel
theorem dX3_shift_7 : decode cX3_shift 7 = .ok (.iload_n 1, 1) := by decide +kernel
theorem dX3_shift_8 : decode cX3_shift 8 = .ok (.istore 4, 2) := by decide +kernel
theorem dX3_shift_10 : decode cX3_shift 10 = .ok (.iload 4, 2) := by decide +kernel
theorem dX3_shift_12 : decode cX3_shift 12 = .ok (.iload_n 2, 1) := by decide +kernel
theorem dX3_shift_13 : decode cX3_shift 13 = .ok (.if_icmp .ge 25, 3) := by decide +kernel
theorem dX3_shift_16 : decode cX3_shift 16 = .ok (.aload_n 0, 1) := by decide +kernel
theorem dX3_shift_17 : decode cX3_shift 17 = .ok (.getfield 17, 3) := by decide +kernel
theorem dX3_shift_20 : decode cX3_shift 20 = .ok (.iload 4, 2) := by decide +kernel
theorem dX3_shift_22 : decode cX3_shift 22 = .ok (.aload_n 0, 1) := by decide +kernel
theorem dX3_shift_23 : decode cX3_shift 23 = .ok (.getfield 17, 3) := by decide +kernel
theorem dX3_shift_26 : decode cX3_shift 26 = .ok (.iload 4, 2) := by decide +kernel
theorem dX3_shift_28 : decode cX3_shift 28 = .ok (.iconst 1, 1) := by decide +kernel
theorem dX3_shift_29 : decode cX3_shift 29 = .ok (.iadd, 1) := by decide +kernel
theorem dX3_shift_30 : decode cX3_shift 30 = .ok (.aaload, 1) := by decide +kernel
theorem dX3_shift_31 : decode cX3_shift 31 = .ok (.aastore, 1) := by decide +kernel
theorem dX3_shift_32 : decode cX3_shift 32 = .ok (.iinc 4 1, 3) := by decide +kernel
theorem dX3_shift_35 : decode cX3_shift 35 = .ok (.goto (-25), 3) := by decide +kernel
theorem dX3_shift_38 : decode cX3_shift 38 = .ok (.iload_n 1, 1) := by decide +kernel
theorem dX3_shift_39 : decode cX3_shift 39 = .ok (.istore 4, 2) := by decide +kernel
theorem dX3_shift_41 : decode cX3_shift 41 = .ok (.iload 4, 2) := by decide +kernel
theorem dX3_shift_43 : decode cX3_shift 43 = .ok (.iload_n 2, 1) := by decide +kernel
theorem dX3_shift_44 : decode cX3_shift 44 = .ok (.if_icmp .le 25, 3) := by decide +kernel
theorem dX3_shift_47 : decode cX3_shift 47 = .ok (.aload_n 0, 1) := by decide +kernel
theorem dX3_shift_48 : decode cX3_shift 48 = .ok (.getfield 17, 3) := by decide +kernel
theorem dX3_shift_51 : decode cX3_shift 51 = .ok (.iload 4, 2) := by decide +kernel
theorem dX3_shift_53 : decode cX3_shift 53 = .ok (.aload_n 0, 1) := by decide +kernel
theorem dX3_shift_54 : decode cX3_shift 54 = .ok (.getfield 17, 3) := by decide +kernel
theorem dX3_shift_57 : decode cX3_shift 57 = .ok (.iload 4, 2) := by decide +kernel
theorem dX3_shift_59 : decode cX3_shift 59 = .ok (.iconst 1, 1) := by decide +kernel
theorem dX3_shift_60 : decode cX3_shift 60 = .ok (.isub, 1) := by decide +kernel
theorem dX3_shift_61 : decode cX3_shift 61 = .ok (.aaload, 1) := by decide +kernel
theorem dX3_shift_62 : decode cX3_shift 62 = .ok (.aastore, 1) := by decide +kernel
theorem dX3_shift_63 : decode cX3_shift 63 = .ok (.iinc 4 (-1), 3) := by decide +kernel
theorem dX3_shift_66 : decode cX3_shift 66 = .ok (.goto (-25), 3) := by decide +kernel
theorem dX3_shift_69 : decode cX3_shift 69 = .ok (.aload_n 0, 1) := by decide +kernel
theorem dX3_shift_70 : decode cX3_shift 70 = .ok (.getfield 17, 3) := by decide +kernel
theorem dX3_shift_73 : decode cX3_shift 73 = .ok (.iload_n 2, 1) := by decide +kernel
theorem dX3_shift_74 : decode cX3_shift 74 = .ok (.aload_n 3, 1) := by decide +kernel
theorem dX3_shift_75 : decode cX3_shift 75 = .ok (.aastore, 1) := by decide +kernel
theorem dX3_shift_76 : decode cX3_shift 76 = .ok (.return_, 1) := by decide +kernel
theorem dX3_changedByShift_0 : decode cX3_changedByShift 0 = .ok (.iload_n 2, 1) := by decide +kernel
theorem dX3_changedByShift_1 : decode cX3_changedByShift 1 = .ok (.iload_n 1, 1) := by decide +kernel
theorem dX3_changedByShift_2 : decode cX3_changedByShift 2 = .ok (.if_icmp .ge 13, 3) := by decide +kernel
theorem dX3_changedByShift_5 : decode cX3_changedByShift 5 = .ok (.aload_n 0, 1) := by decide +kernel
theorem dX3_changedByShift_6 : decode cX3_changedByShift 6 = .ok (.iload_n 1, 1) := by decide +kernel
theorem dX3_changedByShift_7 : decode cX3_changedByShift 7 = .ok (.iload_n 2, 1) := by decide +kernel
theorem dX3_changedByShift_8 : decode cX3_changedByShift 8 = .ok (.iload_n 1, 1) := by decide +kernel
theorem dX3_changedByShift_9 : decode cX3_changedByShift 9 = .ok (.invokevirtual 316, 3) := by decide +kernel
theorem dX3_changedByShift_12 : decode cX3_changedByShift 12 = .ok (.goto 14, 3) := by decide +kernel
theorem dX3_changedByShift_15 : decode cX3_changedByShift 15 = .ok (.aload_n 0, 1) := by decide +kernel
theorem dX3_changedByShift_16 : decode cX3_changedByShift 16 = .ok (.iload_n 1, 1) := by decide +kernel
theorem dX3_changedByShift_17 : decode cX3_changedByShift 17 = .ok (.iload_n 1, 1) := by decide +kernel
theorem dX3_changedByShift_18 : decode cX3_changedByShift 18 = .ok (.iconst 1, 1) := by decide +kernel
theorem dX3_changedByShift_19 : decode cX3_changedByShift 19 = .ok (.iadd, 1) := by decide +kernel
theorem dX3_changedByShift_20 : decode cX3_changedByShift 20 = .ok (.iload_n 2, 1) := by decide +kernel
theorem dX3_changedByShift_21 : decode cX3_changedByShift 21 = .ok (.iconst 1, 1) := by decide +kernel
theorem dX3_changedByShift_22 : decode cX3_changedByShift 22 = .ok (.iadd, 1) := by decide +kernel
theorem dX3_changedByShift_23 : decode cX3_changedByShift 23 = .ok (.invokevirtual 316, 3) := by decide +kernel
theorem dX3_changedByShift_26 : decode cX3_changedByShift 26 = .ok (.ireturn, 1) := by decide +kernel
theorem dX3_changedByRemoval_0 : decode cX3_changedByRemoval 0 = .ok (.aload_n 0, 1) := by decide +kernel
theorem dX3_changedByRemoval_1 : decode cX3_changedByRemoval 1 = .ok (.getfield 17, 3) := by decide +kernel
theorem dX3_changedByRemoval_4 : decode cX3_changedByRemoval 4 = .ok (.iload_n 1, 1) := by decide +kernel
theorem dX3_changedByRemoval_5 : decode cX3_changedByRemoval 5 = .ok (.aaload, 1) := by decide +kernel
theorem dX3_changedByRemoval_6 : decode cX3_changedByRemoval 6 = .ok (.astore_n 2, 1) := by decide +kernel
theorem dX3_changedByRemoval_7 : decode cX3_changedByRemoval 7 = .ok (.aload_n 0, 1) := by decide +kernel
theorem dX3_changedByRemoval_8 : decode cX3_changedByRemoval 8 = .ok (.iload_n 1, 1) := by decide +kernel
theorem dX3_changedByRemoval_9 : decode cX3_changedByRemoval 9 = .ok (.iload_n 1, 1) := by decide +kernel
theorem dX3_changedByRemoval_10 : decode cX3_changedByRemoval 10 = .ok (.iconst 1, 1) := by decide +kernel
theorem dX3_changedByRemoval_11 : decode cX3_changedByRemoval 11 = .ok (.iadd, 1) := by decide +kernel
theorem dX3_changedByRemoval_12 : decode cX3_changedByRemoval 12 = .ok (.aload_n 0, 1) := by decide +kernel
theorem dX3_changedByRemoval_13 : decode cX3_changedByRemoval 13 = .ok (.getfield 116, 3) := by decide +kernel
theorem dX3_changedByRemoval_16 : decode cX3_changedByRemoval 16 = .ok (.invokevirtual 316, 3) := by decide +kernel
theorem dX3_changedByRemoval_19 : decode cX3_changedByRemoval 19 = .ok (.istore_n 3, 1) := by decide +kernel
theorem dX3_changedByRemoval_20 : decode cX3_changedByRemoval 20 = .ok (.aload_n 2, 1) := by decide +kernel
theorem dX3_changedByRemoval_21 : decode cX3_changedByRemoval 21 = .ok (.getfield 191, 3) := by decide +kernel
theorem dX3_changedByRemoval_24 : decode cX3_changedByRemoval 24 = .ok (.bipush 97, 2) := by decide +kernel
theorem dX3_changedByRemoval_26 : decode cX3_changedByRemoval 26 = .ok (.if_icmp .ne 41, 3) := by decide +kernel
theorem dX3_changedByRemoval_29 : decode cX3_changedByRemoval 29 = .ok (.aload_n 2, 1) := by decide +kernel
theorem dX3_changedByRemoval_30 : decode cX3_changedByRemoval 30 = .ok (.aload_n 0, 1) := by decide +kernel
theorem dX3_changedByRemoval_31 : decode cX3_changedByRemoval 31 = .ok (.getfield 143, 3) := by decide +kernel
theorem dX3_changedByRemoval_34 : decode cX3_changedByRemoval 34 = .ok (.invokevirtual 170, 3) := by decide +kernel
theorem dX3_changedByRemoval_37 : decode cX3_changedByRemoval 37 = .ok (.ifCond .eq 30, 3) := by decide +kernel
theorem dX3_changedByRemoval_40 : decode cX3_changedByRemoval 40 = .ok (.aload_n 0, 1) := by decide +kernel
theorem dX3_changedByRemoval_41 : decode cX3_changedByRemoval 41 = .ok (.aload_n 0, 1) := by decide +kernel
theorem dX3_changedByRemoval_42 : decode cX3_changedByRemoval 42 = .ok (.getfield 116, 3) := by decide +kernel
theorem dX3_changedByRemoval_45 : decode cX3_changedByRemoval 45 = .ok (.invokevirtual 237, 3) := by decide +kernel
theorem dX3_changedByRemoval_48 : decode cX3_changedByRemoval 48 = .ok (.iconst 1, 1) := by decide +kernel
theorem dX3_changedByRemoval_49 : decode cX3_changedByRemoval 49 = .ok (.iload_n 1, 1) := by decide +kernel
theorem dX3_changedByRemoval_50 : decode cX3_changedByRemoval 50 = .ok (.ishl, 1) := by decide +kernel
theorem dX3_changedByRemoval_51 : decode cX3_changedByRemoval 51 = .ok (.iconst (-1), 1) := by decide +kernel
theorem dX3_changedByRemoval_52 : decode cX3_changedByRemoval 52 = .ok (.ixor, 1) := by decide +kernel
theorem dX3_changedByRemoval_53 : decode cX3_changedByRemoval 53 = .ok (.iand, 1) := by decide +kernel
theorem dX3_changedByRemoval_54 : decode cX3_changedByRemoval 54 = .ok (.istore 4, 2) := by decide +kernel
theorem dX3_changedByRemoval_56 : decode cX3_changedByRemoval 56 = .ok (.iload_n 3, 1) := by decide +kernel
theorem dX3_changedByRemoval_57 : decode cX3_changedByRemoval 57 = .ok (.aload_n 0, 1) := by decide +kernel
theorem dX3_changedByRemoval_58 : decode cX3_changedByRemoval 58 = .ok (.aload_n 2, 1) := by decide +kernel
theorem dX3_changedByRemoval_59 : decode cX3_changedByRemoval 59 = .ok (.aload_n 2, 1) := by decide +kernel
theorem dX3_changedByRemoval_60 : decode cX3_changedByRemoval 60 = .ok (.iload 4, 2) := by decide +kernel
theorem dX3_changedByRemoval_62 : decode cX3_changedByRemoval 62 = .ok (.invokevirtual 284, 3) := by decide +kernel
theorem dX3_changedByRemoval_65 : decode cX3_changedByRemoval 65 = .ok (.iadd, 1) := by decide +kernel
theorem dX3_changedByRemoval_66 : decode cX3_changedByRemoval 66 = .ok (.istore_n 3, 1) := by decide +kernel
theorem dX3_changedByRemoval_67 : decode cX3_changedByRemoval 67 = .ok (.iload_n 3, 1) := by decide +kernel
theorem dX3_changedByRemoval_68 : decode cX3_changedByRemoval 68 = .ok (.ireturn, 1) := by decide +kernel
theorem dX3_changedAgainst_0 : decode cX3_changedAgainst 0 = .ok (.aload_n 0, 1) := by decide +kernel
theorem dX3_changedAgainst_1 : decode cX3_changedAgainst 1 = .ok (.getfield 17, 3) := by decide +kernel
theorem dX3_changedAgainst_4 : decode cX3_changedAgainst 4 = .ok (.iload_n 1, 1) := by decide +kernel
theorem dX3_changedAgainst_5 : decode cX3_changedAgainst 5 = .ok (.aaload, 1) := by decide +kernel
theorem dX3_changedAgainst_6 : decode cX3_changedAgainst 6 = .ok (.astore 4, 2) := by decide +kernel
theorem dX3_changedAgainst_8 : decode cX3_changedAgainst 8 = .ok (.aload 4, 2) := by decide +kernel
theorem dX3_changedAgainst_10 : decode cX3_changedAgainst 10 = .ok (.aload_n 0, 1) := by decide +kernel
theorem dX3_changedAgainst_11 : decode cX3_changedAgainst 11 = .ok (.getfield 143, 3) := by decide +kernel
theorem dX3_changedAgainst_14 : decode cX3_changedAgainst 14 = .ok (.invokevirtual 170, 3) := by decide +kernel
theorem dX3_changedAgainst_17 : decode cX3_changedAgainst 17 = .ok (.ifCond .ne 5, 3) := by decide +kernel
theorem dX3_changedAgainst_20 : decode cX3_changedAgainst 20 = .ok (.iconst 0, 1) := by decide +kernel
theorem dX3_changedAgainst_21 : decode cX3_changedAgainst 21 = .ok (.ireturn, 1) := by decide +kernel
theorem dX3_changedAgainst_22 : decode cX3_changedAgainst 22 = .ok (.iconst 0, 1) := by decide +kernel
theorem dX3_changedAgainst_23 : decode cX3_changedAgainst 23 = .ok (.istore 5, 2) := by decide +kernel
theorem dX3_changedAgainst_25 : decode cX3_changedAgainst 25 = .ok (.iload_n 2, 1) := by decide +kernel
theorem dX3_changedAgainst_26 : decode cX3_changedAgainst 26 = .ok (.istore 6, 2) := by decide +kernel
theorem dX3_changedAgainst_28 : decode cX3_changedAgainst 28 = .ok (.iload 6, 2) := by decide +kernel
theorem dX3_changedAgainst_30 : decode cX3_changedAgainst 30 = .ok (.iload_n 3, 1) := by decide +kernel
theorem dX3_changedAgainst_31 : decode cX3_changedAgainst 31 = .ok (.if_icmp .ge 68, 3) := by decide +kernel
theorem dX3_changedAgainst_34 : decode cX3_changedAgainst 34 = .ok (.aload_n 0, 1) := by decide +kernel
theorem dX3_changedAgainst_35 : decode cX3_changedAgainst 35 = .ok (.getfield 17, 3) := by decide +kernel
theorem dX3_changedAgainst_38 : decode cX3_changedAgainst 38 = .ok (.iload 6, 2) := by decide +kernel
theorem dX3_changedAgainst_40 : decode cX3_changedAgainst 40 = .ok (.aaload, 1) := by decide +kernel
theorem dX3_changedAgainst_41 : decode cX3_changedAgainst 41 = .ok (.astore 7, 2) := by decide +kernel
theorem dX3_changedAgainst_43 : decode cX3_changedAgainst 43 = .ok (.aload 7, 2) := by decide +kernel
theorem dX3_changedAgainst_45 : decode cX3_changedAgainst 45 = .ok (.aload_n 0, 1) := by decide +kernel
theorem dX3_changedAgainst_46 : decode cX3_changedAgainst 46 = .ok (.getfield 143, 3) := by decide +kernel
theorem dX3_changedAgainst_49 : decode cX3_changedAgainst 49 = .ok (.invokevirtual 170, 3) := by decide +kernel
theorem dX3_changedAgainst_52 : decode cX3_changedAgainst 52 = .ok (.ifCond .eq 41, 3) := by decide +kernel
theorem dX3_changedAgainst_55 : decode cX3_changedAgainst 55 = .ok (.aload 7, 2) := by decide +kernel
theorem dX3_changedAgainst_57 : decode cX3_changedAgainst 57 = .ok (.getfield 191, 3) := by decide +kernel
theorem dX3_changedAgainst_60 : decode cX3_changedAgainst 60 = .ok (.aload 4, 2) := by decide +kernel
theorem dX3_changedAgainst_62 : decode cX3_changedAgainst 62 = .ok (.getfield 191, 3) := by decide +kernel
theorem dX3_changedAgainst_65 : decode cX3_changedAgainst 65 = .ok (.if_icmp .eq 28, 3) := by decide +kernel
theorem dX3_changedAgainst_68 : decode cX3_changedAgainst 68 = .ok (.iload 5, 2) := by decide +kernel
theorem dX3_changedAgainst_70 : decode cX3_changedAgainst 70 = .ok (.aload_n 0, 1) := by decide +kernel
theorem dX3_changedAgainst_71 : decode cX3_changedAgainst 71 = .ok (.aload 4, 2) := by decide +kernel
theorem dX3_changedAgainst_73 : decode cX3_changedAgainst 73 = .ok (.aload 7, 2) := by decide +kernel
theorem dX3_changedAgainst_75 : decode cX3_changedAgainst 75 = .ok (.aload_n 0, 1) := by decide +kernel
theorem dX3_changedAgainst_76 : decode cX3_changedAgainst 76 = .ok (.iload 6, 2) := by decide +kernel
theorem dX3_changedAgainst_78 : decode cX3_changedAgainst 78 = .ok (.invokevirtual 237, 3) := by decide +kernel
theorem dX3_changedAgainst_81 : decode cX3_changedAgainst 81 = .ok (.iconst 1, 1) := by decide +kernel
theorem dX3_changedAgainst_82 : decode cX3_changedAgainst 82 = .ok (.iload_n 1, 1) := by decide +kernel
theorem dX3_changedAgainst_83 : decode cX3_changedAgainst 83 = .ok (.ishl, 1) := by decide +kernel
theorem dX3_changedAgainst_84 : decode cX3_changedAgainst 84 = .ok (.iconst (-1), 1) := by decide +kernel
theorem dX3_changedAgainst_85 : decode cX3_changedAgainst 85 = .ok (.ixor, 1) := by decide +kernel
theorem dX3_changedAgainst_86 : decode cX3_changedAgainst 86 = .ok (.iand, 1) := by decide +kernel
theorem dX3_changedAgainst_87 : decode cX3_changedAgainst 87 = .ok (.invokevirtual 284, 3) := by decide +kernel
theorem dX3_changedAgainst_90 : decode cX3_changedAgainst 90 = .ok (.iadd, 1) := by decide +kernel
theorem dX3_changedAgainst_91 : decode cX3_changedAgainst 91 = .ok (.istore 5, 2) := by decide +kernel
theorem dX3_changedAgainst_93 : decode cX3_changedAgainst 93 = .ok (.iinc 6 1, 3) := by decide +kernel
theorem dX3_changedAgainst_96 : decode cX3_changedAgainst 96 = .ok (.goto (-68), 3) := by decide +kernel
theorem dX3_changedAgainst_99 : decode cX3_changedAgainst 99 = .ok (.iload 5, 2) := by decide +kernel
theorem dX3_changedAgainst_101 : decode cX3_changedAgainst 101 = .ok (.ireturn, 1) := by decide +kernel
theorem dX3_swapByHits_0 : decode cX3_swapByHits 0 = .ok (.iconst 0, 1) := by decide +kernel
theorem dX3_swapByHits_1 : decode cX3_swapByHits 1 = .ok (.istore_n 1, 1) := by decide +kernel
theorem dX3_swapByHits_2 : decode cX3_swapByHits 2 = .ok (.iconst 0, 1) := by decide +kernel
theorem dX3_swapByHits_3 : decode cX3_swapByHits 3 = .ok (.istore_n 2, 1) := by decide +kernel
theorem dX3_swapByHits_4 : decode cX3_swapByHits 4 = .ok (.iload_n 2, 1) := by decide +kernel
theorem dX3_swapByHits_5 : decode cX3_swapByHits 5 = .ok (.aload_n 0, 1) := by decide +kernel
theorem dX3_swapByHits_6 : decode cX3_swapByHits 6 = .ok (.getfield 116, 3) := by decide +kernel
theorem dX3_swapByHits_9 : decode cX3_swapByHits 9 = .ok (.iconst 1, 1) := by decide +kernel
theorem dX3_swapByHits_10 : decode cX3_swapByHits 10 = .ok (.isub, 1) := by decide +kernel
theorem dX3_swapByHits_11 : decode cX3_swapByHits 11 = .ok (.if_icmp .ge 54, 3) := by decide +kernel
theorem dX3_swapByHits_14 : decode cX3_swapByHits 14 = .ok (.aload_n 0, 1) := by decide +kernel
theorem dX3_swapByHits_15 : decode cX3_swapByHits 15 = .ok (.getfield 17, 3) := by decide +kernel
theorem dX3_swapByHits_18 : decode cX3_swapByHits 18 = .ok (.iload_n 2, 1) := by decide +kernel
theorem dX3_swapByHits_19 : decode cX3_swapByHits 19 = .ok (.iconst 1, 1) := by decide +kernel
theorem dX3_swapByHits_20 : decode cX3_swapByHits 20 = .ok (.iadd, 1) := by decide +kernel
theorem dX3_swapByHits_21 : decode cX3_swapByHits 21 = .ok (.aaload, 1) := by decide +kernel
theorem dX3_swapByHits_22 : decode cX3_swapByHits 22 = .ok (.getfield 195, 3) := by decide +kernel
theorem dX3_swapByHits_25 : decode cX3_swapByHits 25 = .ok (.aload_n 0, 1) := by decide +kernel
theorem dX3_swapByHits_26 : decode cX3_swapByHits 26 = .ok (.getfield 17, 3) := by decide +kernel
theorem dX3_swapByHits_29 : decode cX3_swapByHits 29 = .ok (.iload_n 2, 1) := by decide +kernel
theorem dX3_swapByHits_30 : decode cX3_swapByHits 30 = .ok (.aaload, 1) := by decide +kernel
theorem dX3_swapByHits_31 : decode cX3_swapByHits 31 = .ok (.getfield 195, 3) := by decide +kernel
theorem dX3_swapByHits_34 : decode cX3_swapByHits 34 = .ok (.if_icmp .le 25, 3) := by decide +kernel
theorem dX3_swapByHits_37 : decode cX3_swapByHits 37 = .ok (.aload_n 0, 1) := by decide +kernel
theorem dX3_swapByHits_38 : decode cX3_swapByHits 38 = .ok (.iload_n 2, 1) := by decide +kernel
theorem dX3_swapByHits_39 : decode cX3_swapByHits 39 = .ok (.iload_n 2, 1) := by decide +kernel
theorem dX3_swapByHits_40 : decode cX3_swapByHits 40 = .ok (.iconst 1, 1) := by decide +kernel
theorem dX3_swapByHits_41 : decode cX3_swapByHits 41 = .ok (.iadd, 1) := by decide +kernel
theorem dX3_swapByHits_42 : decode cX3_swapByHits 42 = .ok (.invokevirtual 224, 3) := by decide +kernel
theorem dX3_swapByHits_45 : decode cX3_swapByHits 45 = .ok (.ifCond .ne 14, 3) := by decide +kernel
theorem dX3_swapByHits_48 : decode cX3_swapByHits 48 = .ok (.aload_n 0, 1) := by decide +kernel
theorem dX3_swapByHits_49 : decode cX3_swapByHits 49 = .ok (.iload_n 2, 1) := by decide +kernel
theorem dX3_swapByHits_50 : decode cX3_swapByHits 50 = .ok (.iload_n 2, 1) := by decide +kernel
theorem dX3_swapByHits_51 : decode cX3_swapByHits 51 = .ok (.iconst 1, 1) := by decide +kernel
theorem dX3_swapByHits_52 : decode cX3_swapByHits 52 = .ok (.iadd, 1) := by decide +kernel
theorem dX3_swapByHits_53 : decode cX3_swapByHits 53 = .ok (.invokevirtual 150, 3) := by decide +kernel
theorem dX3_swapByHits_56 : decode cX3_swapByHits 56 = .ok (.iinc 1 1, 3) := by decide +kernel
theorem dX3_swapByHits_59 : decode cX3_swapByHits 59 = .ok (.iinc 2 1, 3) := by decide +kernel
theorem dX3_swapByHits_62 : decode cX3_swapByHits 62 = .ok (.goto (-58), 3) := by decide +kernel
theorem dX3_swapByHits_65 : decode cX3_swapByHits 65 = .ok (.iload_n 1, 1) := by decide +kernel
theorem dX3_swapByHits_66 : decode cX3_swapByHits 66 = .ok (.ireturn, 1) := by decide +kernel
theorem dJx00060_init_a7421_0 : decode cJx00060_init_a7421 0 = .ok (.aload_n 0, 1) := by decide +kernel
theorem dJx00060_init_a7421_1 : decode cJx00060_init_a7421 1 = .ok (.aload_n 1, 1) := by decide +kernel
theorem dJx00060_init_a7421_2 : decode cJx00060_init_a7421 2 = .ok (.invokespecial 7, 3) := by decide +kernel
theorem dJx00060_init_a7421_5 : decode cJx00060_init_a7421 5 = .ok (.return_, 1) := by decide +kernel
theorem dJ6_bitCount_0f7a4_0 : decode cJ6_bitCount_0f7a4 0 = .ok (.iload_n 0, 1) := by decide +kernel
theorem dJ6_bitCount_0f7a4_1 : decode cJ6_bitCount_0f7a4 1 = .ok (.iload_n 0, 1) := by decide +kernel
theorem dJ6_bitCount_0f7a4_2 : decode cJ6_bitCount_0f7a4 2 = .ok (.iconst 1, 1) := by decide +kernel
theorem dJ6_bitCount_0f7a4_3 : decode cJ6_bitCount_0f7a4 3 = .ok (.iushr, 1) := by decide +kernel
theorem dJ6_bitCount_0f7a4_4 : decode cJ6_bitCount_0f7a4 4 = .ok (.ldc_w 265, 3) := by decide +kernel
theorem dJ6_bitCount_0f7a4_7 : decode cJ6_bitCount_0f7a4 7 = .ok (.iand, 1) := by decide +kernel
theorem dJ6_bitCount_0f7a4_8 : decode cJ6_bitCount_0f7a4 8 = .ok (.isub, 1) := by decide +kernel
theorem dJ6_bitCount_0f7a4_9 : decode cJ6_bitCount_0f7a4 9 = .ok (.istore_n 0, 1) := by decide +kernel
theorem dJ6_bitCount_0f7a4_10 : decode cJ6_bitCount_0f7a4 10 = .ok (.iload_n 0, 1) := by decide +kernel
theorem dJ6_bitCount_0f7a4_11 : decode cJ6_bitCount_0f7a4 11 = .ok (.ldc_w 266, 3) := by decide +kernel
theorem dJ6_bitCount_0f7a4_14 : decode cJ6_bitCount_0f7a4 14 = .ok (.iand, 1) := by decide +kernel
theorem dJ6_bitCount_0f7a4_15 : decode cJ6_bitCount_0f7a4 15 = .ok (.iload_n 0, 1) := by decide +kernel
theorem dJ6_bitCount_0f7a4_16 : decode cJ6_bitCount_0f7a4 16 = .ok (.iconst 2, 1) := by decide +kernel
theorem dJ6_bitCount_0f7a4_17 : decode cJ6_bitCount_0f7a4 17 = .ok (.iushr, 1) := by decide +kernel
theorem dJ6_bitCount_0f7a4_18 : decode cJ6_bitCount_0f7a4 18 = .ok (.ldc_w 266, 3) := by decide +kernel
theorem dJ6_bitCount_0f7a4_21 : decode cJ6_bitCount_0f7a4 21 = .ok (.iand, 1) := by decide +kernel
theorem dJ6_bitCount_0f7a4_22 : decode cJ6_bitCount_0f7a4 22 = .ok (.iadd, 1) := by decide +kernel
theorem dJ6_bitCount_0f7a4_23 : decode cJ6_bitCount_0f7a4 23 = .ok (.istore_n 0, 1) := by decide +kernel
theorem dJ6_bitCount_0f7a4_24 : decode cJ6_bitCount_0f7a4 24 = .ok (.iload_n 0, 1) := by decide +kernel
theorem dJ6_bitCount_0f7a4_25 : decode cJ6_bitCount_0f7a4 25 = .ok (.iload_n 0, 1) := by decide +kernel
theorem dJ6_bitCount_0f7a4_26 : decode cJ6_bitCount_0f7a4 26 = .ok (.iconst 4, 1) := by decide +kernel
theorem dJ6_bitCount_0f7a4_27 : decode cJ6_bitCount_0f7a4 27 = .ok (.iushr, 1) := by decide +kernel
theorem dJ6_bitCount_0f7a4_28 : decode cJ6_bitCount_0f7a4 28 = .ok (.iadd, 1) := by decide +kernel
theorem dJ6_bitCount_0f7a4_29 : decode cJ6_bitCount_0f7a4 29 = .ok (.ldc_w 267, 3) := by decide +kernel
theorem dJ6_bitCount_0f7a4_32 : decode cJ6_bitCount_0f7a4 32 = .ok (.iand, 1) := by decide +kernel
theorem dJ6_bitCount_0f7a4_33 : decode cJ6_bitCount_0f7a4 33 = .ok (.istore_n 0, 1) := by decide +kernel
theorem dJ6_bitCount_0f7a4_34 : decode cJ6_bitCount_0f7a4 34 = .ok (.iload_n 0, 1) := by decide +kernel
theorem dJ6_bitCount_0f7a4_35 : decode cJ6_bitCount_0f7a4 35 = .ok (.iload_n 0, 1) := by decide +kernel
theorem dJ6_bitCount_0f7a4_36 : decode cJ6_bitCount_0f7a4 36 = .ok (.bipush 8, 2) := by decide +kernel
theorem dJ6_bitCount_0f7a4_38 : decode cJ6_bitCount_0f7a4 38 = .ok (.iushr, 1) := by decide +kernel
theorem dJ6_bitCount_0f7a4_39 : decode cJ6_bitCount_0f7a4 39 = .ok (.iadd, 1) := by decide +kernel
theorem dJ6_bitCount_0f7a4_40 : decode cJ6_bitCount_0f7a4 40 = .ok (.istore_n 0, 1) := by decide +kernel
theorem dJ6_bitCount_0f7a4_41 : decode cJ6_bitCount_0f7a4 41 = .ok (.iload_n 0, 1) := by decide +kernel
theorem dJ6_bitCount_0f7a4_42 : decode cJ6_bitCount_0f7a4 42 = .ok (.iload_n 0, 1) := by decide +kernel
theorem dJ6_bitCount_0f7a4_43 : decode cJ6_bitCount_0f7a4 43 = .ok (.bipush 16, 2) := by decide +kernel
theorem dJ6_bitCount_0f7a4_45 : decode cJ6_bitCount_0f7a4 45 = .ok (.iushr, 1) := by decide +kernel
theorem dJ6_bitCount_0f7a4_46 : decode cJ6_bitCount_0f7a4 46 = .ok (.iadd, 1) := by decide +kernel
theorem dJ6_bitCount_0f7a4_47 : decode cJ6_bitCount_0f7a4 47 = .ok (.istore_n 0, 1) := by decide +kernel
theorem dJ6_bitCount_0f7a4_48 : decode cJ6_bitCount_0f7a4 48 = .ok (.iload_n 0, 1) := by decide +kernel
theorem dJ6_bitCount_0f7a4_49 : decode cJ6_bitCount_0f7a4 49 = .ok (.bipush 63, 2) := by decide +kernel
theorem dJ6_bitCount_0f7a4_51 : decode cJ6_bitCount_0f7a4 51 = .ok (.iand, 1) := by decide +kernel
theorem dJ6_bitCount_0f7a4_52 : decode cJ6_bitCount_0f7a4 52 = .ok (.ireturn, 1) := by decide +kernel
theorem dJ9_min_7cf53_0 : decode cJ9_min_7cf53 0 = .ok (.iload_n 0, 1) := by decide +kernel
theorem dJ9_min_7cf53_1 : decode cJ9_min_7cf53 1 = .ok (.iload_n 1, 1) := by decide +kernel
theorem dJ9_min_7cf53_2 : decode cJ9_min_7cf53 2 = .ok (.if_icmp .gt 7, 3) := by decide +kernel
theorem dJ9_min_7cf53_5 : decode cJ9_min_7cf53 5 = .ok (.iload_n 0, 1) := by decide +kernel
theorem dJ9_min_7cf53_6 : decode cJ9_min_7cf53 6 = .ok (.goto 4, 3) := by decide +kernel
theorem dJ9_min_7cf53_9 : decode cJ9_min_7cf53 9 = .ok (.iload_n 1, 1) := by decide +kernel
theorem dJ9_min_7cf53_10 : decode cJ9_min_7cf53 10 = .ok (.ireturn, 1) := by decide +kernel
theorem dJ7_fill_53178_0 : decode cJ7_fill_53178 0 = .ok (.iconst 0, 1) := by decide +kernel
theorem dJ7_fill_53178_1 : decode cJ7_fill_53178 1 = .ok (.istore_n 2, 1) := by decide +kernel
theorem dJ7_fill_53178_2 : decode cJ7_fill_53178 2 = .ok (.aload_n 0, 1) := by decide +kernel
theorem dJ7_fill_53178_3 : decode cJ7_fill_53178 3 = .ok (.arraylength, 1) := by decide +kernel
theorem dJ7_fill_53178_4 : decode cJ7_fill_53178 4 = .ok (.istore_n 3, 1) := by decide +kernel
theorem dJ7_fill_53178_5 : decode cJ7_fill_53178 5 = .ok (.iload_n 2, 1) := by decide +kernel
theorem dJ7_fill_53178_6 : decode cJ7_fill_53178 6 = .ok (.iload_n 3, 1) := by decide +kernel
theorem dJ7_fill_53178_7 : decode cJ7_fill_53178 7 = .ok (.if_icmp .ge 13, 3) := by decide +kernel
theorem dJ7_fill_53178_10 : decode cJ7_fill_53178 10 = .ok (.aload_n 0, 1) := by decide +kernel
theorem dJ7_fill_53178_11 : decode cJ7_fill_53178 11 = .ok (.iload_n 2, 1) := by decide +kernel
theorem dJ7_fill_53178_12 : decode cJ7_fill_53178 12 = .ok (.iload_n 1, 1) := by decide +kernel
theorem dJ7_fill_53178_13 : decode cJ7_fill_53178 13 = .ok (.iastore, 1) := by decide +kernel
theorem dJ7_fill_53178_14 : decode cJ7_fill_53178 14 = .ok (.iinc 2 1, 3) := by decide +kernel
theorem dJ7_fill_53178_17 : decode cJ7_fill_53178 17 = .ok (.goto (-12), 3) := by decide +kernel
theorem dJ7_fill_53178_20 : decode cJ7_fill_53178 20 = .ok (.return_, 1) := by decide +kernel
theorem dL_addObject_0 : decode cL_addObject 0 = .ok (.aload_n 1, 1) := by decide +kernel
theorem dL_addObject_1 : decode cL_addObject 1 = .ok (.iconst 0, 1) := by decide +kernel
theorem dL_addObject_2 : decode cL_addObject 2 = .ok (.aload_n 0, 1) := by decide +kernel
theorem dL_addObject_3 : decode cL_addObject 3 = .ok (.invokevirtual 7, 3) := by decide +kernel
theorem dL_addObject_6 : decode cL_addObject 6 = .ok (.i2l, 1) := by decide +kernel
theorem dL_addObject_7 : decode cL_addObject 7 = .ok (.lastore, 1) := by decide +kernel
theorem dL_addObject_8 : decode cL_addObject 8 = .ok (.goto 6, 3) := by decide +kernel
theorem dL_addObject_11 : decode cL_addObject 11 = .ok (.astore_n 2, 1) := by decide +kernel
theorem dL_addObject_12 : decode cL_addObject 12 = .ok (.iconst 1, 1) := by decide +kernel
theorem dL_addObject_13 : decode cL_addObject 13 = .ok (.ireturn, 1) := by decide +kernel
theorem dL_addObject_14 : decode cL_addObject 14 = .ok (.iconst 0, 1) := by decide +kernel
theorem dL_addObject_15 : decode cL_addObject 15 = .ok (.ireturn, 1) := by decide +kernel
theorem dL_addRange_0 : decode cL_addRange 0 = .ok (.aload 4, 2) := by decide +kernel
theorem dL_addRange_2 : decode cL_addRange 2 = .ok (.iconst 0, 1) := by decide +kernel
theorem dL_addRange_3 : decode cL_addRange 3 = .ok (.aload_n 0, 1) := by decide +kernel
theorem dL_addRange_4 : decode cL_addRange 4 = .ok (.iload_n 1, 1) := by decide +kernel
theorem dL_addRange_5 : decode cL_addRange 5 = .ok (.iload_n 2, 1) := by decide +kernel
theorem dL_addRange_6 : decode cL_addRange 6 = .ok (.iload_n 3, 1) := by decide +kernel
theorem dL_addRange_7 : decode cL_addRange 7 = .ok (.invokevirtual 15, 3) := by decide +kernel
theorem dL_addRange_10 : decode cL_addRange 10 = .ok (.i2l, 1) := by decide +kernel
theorem dL_addRange_11 : decode cL_addRange 11 = .ok (.lastore, 1) := by decide +kernel
theorem dL_addRange_12 : decode cL_addRange 12 = .ok (.goto 15, 3) := by decide +kernel
theorem dL_addRange_15 : decode cL_addRange 15 = .ok (.astore 5, 2) := by decide +kernel
theorem dL_addRange_17 : decode cL_addRange 17 = .ok (.iconst 1, 1) := by decide +kernel
theorem dL_addRange_18 : decode cL_addRange 18 = .ok (.ireturn, 1) := by decide +kernel
theorem dL_addRange_19 : decode cL_addRange 19 = .ok (.astore 5, 2) := by decide +kernel
theorem dL_addRange_21 : decode cL_addRange 21 = .ok (.iconst 2, 1) := by decide +kernel
theorem dL_addRange_22 : decode cL_addRange 22 = .ok (.ireturn, 1) := by decide +kernel
theorem dL_addRange_23 : decode cL_addRange 23 = .ok (.astore 5, 2) := by decide +kernel
theorem dL_addRange_25 : decode cL_addRange 25 = .ok (.iconst 3, 1) := by decide +kernel
theorem dL_addRange_26 : decode cL_addRange 26 = .ok (.ireturn, 1) := by decide +kernel
theorem dL_addRange_27 : decode cL_addRange 27 = .ok (.iconst 0, 1) := by decide +kernel
theorem dL_addRange_28 : decode cL_addRange 28 = .ok (.ireturn, 1) := by decide +kernel
theorem dL_removeRange_0 : decode cL_removeRange 0 = .ok (.aload_n 2, 1) := by decide +kernel
theorem dL_removeRange_1 : decode cL_removeRange 1 = .ok (.iconst 0, 1) := by decide +kernel
theorem dL_removeRange_2 : decode cL_removeRange 2 = .ok (.aload_n 0, 1) := by decide +kernel
theorem dL_removeRange_3 : decode cL_removeRange 3 = .ok (.iload_n 1, 1) := by decide +kernel
theorem dL_removeRange_4 : decode cL_removeRange 4 = .ok (.invokevirtual 23, 3) := by decide +kernel
theorem dL_removeRange_7 : decode cL_removeRange 7 = .ok (.i2l, 1) := by decide +kernel
theorem dL_removeRange_8 : decode cL_removeRange 8 = .ok (.lastore, 1) := by decide +kernel
theorem dL_removeRange_9 : decode cL_removeRange 9 = .ok (.goto 9, 3) := by decide +kernel
theorem dL_removeRange_12 : decode cL_removeRange 12 = .ok (.astore_n 3, 1) := by decide +kernel
theorem dL_removeRange_13 : decode cL_removeRange 13 = .ok (.iconst 1, 1) := by decide +kernel
theorem dL_removeRange_14 : decode cL_removeRange 14 = .ok (.ireturn, 1) := by decide +kernel
theorem dL_removeRange_15 : decode cL_removeRange 15 = .ok (.astore_n 3, 1) := by decide +kernel
theorem dL_removeRange_16 : decode cL_removeRange 16 = .ok (.iconst 2, 1) := by decide +kernel
theorem dL_removeRange_17 : decode cL_removeRange 17 = .ok (.ireturn, 1) := by decide +kernel
theorem dL_removeRange_18 : decode cL_removeRange 18 = .ok (.iconst 0, 1) := by decide +kernel
theorem dL_removeRange_19 : decode cL_removeRange 19 = .ok (.ireturn, 1) := by decide +kernel
theorem dL_addMember_0 : decode cL_addMember 0 = .ok (.aload_n 3, 1) := by decide +kernel
theorem dL_addMember_1 : decode cL_addMember 1 = .ok (.iconst 0, 1) := by decide +kernel
theorem dL_addMember_2 : decode cL_addMember 2 = .ok (.aload_n 0, 1) := by decide +kernel
theorem dL_addMember_3 : decode cL_addMember 3 = .ok (.iload_n 1, 1) := by decide +kernel
theorem dL_addMember_4 : decode cL_addMember 4 = .ok (.iload_n 2, 1) := by decide +kernel
theorem dL_addMember_5 : decode cL_addMember 5 = .ok (.invokevirtual 27, 3) := by decide +kernel
theorem dL_addMember_8 : decode cL_addMember 8 = .ok (.i2l, 1) := by decide +kernel
theorem dL_addMember_9 : decode cL_addMember 9 = .ok (.lastore, 1) := by decide +kernel
theorem dL_addMember_10 : decode cL_addMember 10 = .ok (.goto 19, 3) := by decide +kernel
theorem dL_addMember_13 : decode cL_addMember 13 = .ok (.astore 4, 2) := by decide +kernel
theorem dL_addMember_15 : decode cL_addMember 15 = .ok (.iconst 1, 1) := by decide +kernel
theorem dL_addMember_16 : decode cL_addMember 16 = .ok (.ireturn, 1) := by decide +kernel
theorem dL_addMember_17 : decode cL_addMember 17 = .ok (.astore 4, 2) := by decide +kernel
theorem dL_addMember_19 : decode cL_addMember 19 = .ok (.iconst 2, 1) := by decide +kernel
theorem dL_addMember_20 : decode cL_addMember 20 = .ok (.ireturn, 1) := by decide +kernel
theorem dL_addMember_21 : decode cL_addMember 21 = .ok (.astore 4, 2) := by decide +kernel
theorem dL_addMember_23 : decode cL_addMember 23 = .ok (.iconst 3, 1) := by decide +kernel
theorem dL_addMember_24 : decode cL_addMember 24 = .ok (.ireturn, 1) := by decide +kernel
theorem dL_addMember_25 : decode cL_addMember 25 = .ok (.astore 4, 2) := by decide +kernel
theorem dL_addMember_27 : decode cL_addMember 27 = .ok (.iconst 4, 1) := by decide +kernel
theorem dL_addMember_28 : decode cL_addMember 28 = .ok (.ireturn, 1) := by decide +kernel
theorem dL_addMember_29 : decode cL_addMember 29 = .ok (.iconst 0, 1) := by decide +kernel
theorem dL_addMember_30 : decode cL_addMember 30 = .ok (.ireturn, 1) := by decide +kernel
theorem dL_removeMember_0 : decode cL_removeMember 0 = .ok (.aload_n 3, 1) := by decide +kernel
theorem dL_removeMember_1 : decode cL_removeMember 1 = .ok (.iconst 0, 1) := by decide +kernel
theorem dL_removeMember_2 : decode cL_removeMember 2 = .ok (.aload_n 0, 1) := by decide +kernel
theorem dL_removeMember_3 : decode cL_removeMember 3 = .ok (.iload_n 1, 1) := by decide +kernel
theorem dL_removeMember_4 : decode cL_removeMember 4 = .ok (.iload_n 2, 1) := by decide +kernel
theorem dL_removeMember_5 : decode cL_removeMember 5 = .ok (.invokevirtual 33, 3) := by decide +kernel
theorem dL_removeMember_8 : decode cL_removeMember 8 = .ok (.i2l, 1) := by decide +kernel
theorem dL_removeMember_9 : decode cL_removeMember 9 = .ok (.lastore, 1) := by decide +kernel
theorem dL_removeMember_10 : decode cL_removeMember 10 = .ok (.goto 11, 3) := by decide +kernel
theorem dL_removeMember_13 : decode cL_removeMember 13 = .ok (.astore 4, 2) := by decide +kernel
theorem dL_removeMember_15 : decode cL_removeMember 15 = .ok (.iconst 1, 1) := by decide +kernel
theorem dL_removeMember_16 : decode cL_removeMember 16 = .ok (.ireturn, 1) := by decide +kernel
theorem dL_removeMember_17 : decode cL_removeMember 17 = .ok (.astore 4, 2) := by decide +kernel
theorem dL_removeMember_19 : decode cL_removeMember 19 = .ok (.iconst 2, 1) := by decide +kernel
theorem dL_removeMember_20 : decode cL_removeMember 20 = .ok (.ireturn, 1) := by decide +kernel
theorem dL_removeMember_21 : decode cL_removeMember 21 = .ok (.iconst 0, 1) := by decide +kernel
theorem dL_removeMember_22 : decode cL_removeMember 22 = .ok (.ireturn, 1) := by decide +kernel
theorem dL_values_0 : decode cL_values 0 = .ok (.aload_n 2, 1) := by decide +kernel
theorem dL_values_1 : decode cL_values 1 = .ok (.iconst 0, 1) := by decide +kernel
theorem dL_values_2 : decode cL_values 2 = .ok (.aload_n 0, 1) := by decide +kernel
theorem dL_values_3 : decode cL_values 3 = .ok (.iload_n 1, 1) := by decide +kernel
theorem dL_values_4 : decode cL_values 4 = .ok (.invokevirtual 38, 3) := by decide +kernel
theorem dL_values_7 : decode cL_values 7 = .ok (.i2l, 1) := by decide +kernel
theorem dL_values_8 : decode cL_values 8 = .ok (.lastore, 1) := by decide +kernel
theorem dL_values_9 : decode cL_values 9 = .ok (.goto 6, 3) := by decide +kernel
theorem dL_values_12 : decode cL_values 12 = .ok (.astore_n 3, 1) := by decide +kernel
theorem dL_values_13 : decode cL_values 13 = .ok (.iconst 1, 1) := by decide +kernel
theorem dL_values_14 : decode cL_values 14 = .ok (.ireturn, 1) := by decide +kernel
theorem dL_values_15 : decode cL_values 15 = .ok (.iconst 0, 1) := by decide +kernel
theorem dL_values_16 : decode cL_values 16 = .ok (.ireturn, 1) := by decide +kernel
theorem dL_hasValue_0 : decode cL_hasValue 0 = .ok (.aload_n 3, 1) := by decide +kernel
theorem dL_hasValue_1 : decode cL_hasValue 1 = .ok (.iconst 0, 1) := by decide +kernel
theorem dL_hasValue_2 : decode cL_hasValue 2 = .ok (.aload_n 0, 1) := by decide +kernel
theorem dL_hasValue_3 : decode cL_hasValue 3 = .ok (.iload_n 1, 1) := by decide +kernel
theorem dL_hasValue_4 : decode cL_hasValue 4 = .ok (.iload_n 2, 1) := by decide +kernel
theorem dL_hasValue_5 : decode cL_hasValue 5 = .ok (.invokevirtual 41, 3) := by decide +kernel
theorem dL_hasValue_8 : decode cL_hasValue 8 = .ok (.ifCond .eq 7, 3) := by decide +kernel
theorem dL_hasValue_11 : decode cL_hasValue 11 = .ok (.lconst 1, 1) := by decide +kernel
theorem dL_hasValue_12 : decode cL_hasValue 12 = .ok (.goto 4, 3) := by decide +kernel
theorem dL_hasValue_15 : decode cL_hasValue 15 = .ok (.lconst 0, 1) := by decide +kernel
theorem dL_hasValue_16 : decode cL_hasValue 16 = .ok (.lastore, 1) := by decide +kernel
theorem dL_hasValue_17 : decode cL_hasValue 17 = .ok (.goto 11, 3) := by decide +kernel
theorem dL_hasValue_20 : decode cL_hasValue 20 = .ok (.astore 4, 2) := by decide +kernel
theorem dL_hasValue_22 : decode cL_hasValue 22 = .ok (.iconst 1, 1) := by decide +kernel
theorem dL_hasValue_23 : decode cL_hasValue 23 = .ok (.ireturn, 1) := by decide +kernel
theorem dL_hasValue_24 : decode cL_hasValue 24 = .ok (.astore 4, 2) := by decide +kernel
theorem dL_hasValue_26 : decode cL_hasValue 26 = .ok (.iconst 2, 1) := by decide +kernel
theorem dL_hasValue_27 : decode cL_hasValue 27 = .ok (.ireturn, 1) := by decide +kernel
theorem dL_hasValue_28 : decode cL_hasValue 28 = .ok (.iconst 0, 1) := by decide +kernel
theorem dL_hasValue_29 : decode cL_hasValue 29 = .ok (.ireturn, 1) := by decide +kernel
theorem dL_users_0 : decode cL_users 0 = .ok (.aload_n 2, 1) := by decide +kernel
theorem dL_users_1 : decode cL_users 1 = .ok (.iconst 0, 1) := by decide +kernel
theorem dL_users_2 : decode cL_users 2 = .ok (.aload_n 0, 1) := by decide +kernel
theorem dL_users_3 : decode cL_users 3 = .ok (.iload_n 1, 1) := by decide +kernel
theorem dL_users_4 : decode cL_users 4 = .ok (.invokevirtual 45, 3) := by decide +kernel
theorem dL_users_7 : decode cL_users 7 = .ok (.i2l, 1) := by decide +kernel
theorem dL_users_8 : decode cL_users 8 = .ok (.lastore, 1) := by decide +kernel
theorem dL_users_9 : decode cL_users 9 = .ok (.goto 6, 3) := by decide +kernel
theorem dL_users_12 : decode cL_users 12 = .ok (.astore_n 3, 1) := by decide +kernel
theorem dL_users_13 : decode cL_users 13 = .ok (.iconst 1, 1) := by decide +kernel
theorem dL_users_14 : decode cL_users 14 = .ok (.ireturn, 1) := by decide +kernel
theorem dL_users_15 : decode cL_users 15 = .ok (.iconst 0, 1) := by decide +kernel
theorem dL_users_16 : decode cL_users 16 = .ok (.ireturn, 1) := by decide +kernel
theorem dL_addRule_0 : decode cL_addRule 0 = .ok (.aload 7, 2) := by decide +kernel
theorem dL_addRule_2 : decode cL_addRule 2 = .ok (.iconst 0, 1) := by decide +kernel
theorem dL_addRule_3 : decode cL_addRule 3 = .ok (.aload_n 0, 1) := by decide +kernel
theorem dL_addRule_4 : decode cL_addRule 4 = .ok (.iload_n 1, 1) := by decide +kernel
theorem dL_addRule_5 : decode cL_addRule 5 = .ok (.iload_n 2, 1) := by decide +kernel
theorem dL_addRule_6 : decode cL_addRule 6 = .ok (.iload_n 3, 1) := by decide +kernel
theorem dL_addRule_7 : decode cL_addRule 7 = .ok (.iload 4, 2) := by decide +kernel
theorem dL_addRule_9 : decode cL_addRule 9 = .ok (.iload 5, 2) := by decide +kernel
theorem dL_addRule_11 : decode cL_addRule 11 = .ok (.iload 6, 2) := by decide +kernel
theorem dL_addRule_13 : decode cL_addRule 13 = .ok (.invokevirtual 48, 3) := by decide +kernel
theorem dL_addRule_16 : decode cL_addRule 16 = .ok (.i2l, 1) := by decide +kernel
theorem dL_addRule_17 : decode cL_addRule 17 = .ok (.lastore, 1) := by decide +kernel
theorem dL_addRule_18 : decode cL_addRule 18 = .ok (.goto 15, 3) := by decide +kernel
theorem dL_addRule_21 : decode cL_addRule 21 = .ok (.astore 8, 2) := by decide +kernel
theorem dL_addRule_23 : decode cL_addRule 23 = .ok (.iconst 1, 1) := by decide +kernel
theorem dL_addRule_24 : decode cL_addRule 24 = .ok (.ireturn, 1) := by decide +kernel
theorem dL_addRule_25 : decode cL_addRule 25 = .ok (.astore 8, 2) := by decide +kernel
theorem dL_addRule_27 : decode cL_addRule 27 = .ok (.iconst 2, 1) := by decide +kernel
theorem dL_addRule_28 : decode cL_addRule 28 = .ok (.ireturn, 1) := by decide +kernel
theorem dL_addRule_29 : decode cL_addRule 29 = .ok (.astore 8, 2) := by decide +kernel
theorem dL_addRule_31 : decode cL_addRule 31 = .ok (.iconst 3, 1) := by decide +kernel
theorem dL_addRule_32 : decode cL_addRule 32 = .ok (.ireturn, 1) := by decide +kernel
theorem dL_addRule_33 : decode cL_addRule 33 = .ok (.iconst 0, 1) := by decide +kernel
theorem dL_addRule_34 : decode cL_addRule 34 = .ok (.ireturn, 1) := by decide +kernel
theorem dL_removeRule_0 : decode cL_removeRule 0 = .ok (.aload_n 2, 1) := by decide +kernel
theorem dL_removeRule_1 : decode cL_removeRule 1 = .ok (.iconst 0, 1) := by decide +kernel
theorem dL_removeRule_2 : decode cL_removeRule 2 = .ok (.aload_n 0, 1) := by decide +kernel
theorem dL_removeRule_3 : decode cL_removeRule 3 = .ok (.iload_n 1, 1) := by decide +kernel
theorem dL_removeRule_4 : decode cL_removeRule 4 = .ok (.invokevirtual 52, 3) := by decide +kernel
theorem dL_removeRule_7 : decode cL_removeRule 7 = .ok (.i2l, 1) := by decide +kernel
theorem dL_removeRule_8 : decode cL_removeRule 8 = .ok (.lastore, 1) := by decide +kernel
theorem dL_removeRule_9 : decode cL_removeRule 9 = .ok (.goto 6, 3) := by decide +kernel
theorem dL_removeRule_12 : decode cL_removeRule 12 = .ok (.astore_n 3, 1) := by decide +kernel
theorem dL_removeRule_13 : decode cL_removeRule 13 = .ok (.iconst 1, 1) := by decide +kernel
theorem dL_removeRule_14 : decode cL_removeRule 14 = .ok (.ireturn, 1) := by decide +kernel
theorem dL_removeRule_15 : decode cL_removeRule 15 = .ok (.iconst 0, 1) := by decide +kernel
theorem dL_removeRule_16 : decode cL_removeRule 16 = .ok (.ireturn, 1) := by decide +kernel
theorem dL_setLastDay_0 : decode cL_setLastDay 0 = .ok (.aload_n 3, 1) := by decide +kernel
theorem dL_setLastDay_1 : decode cL_setLastDay 1 = .ok (.iconst 0, 1) := by decide +kernel
theorem dL_setLastDay_2 : decode cL_setLastDay 2 = .ok (.aload_n 0, 1) := by decide +kernel
theorem dL_setLastDay_3 : decode cL_setLastDay 3 = .ok (.iload_n 1, 1) := by decide +kernel
theorem dL_setLastDay_4 : decode cL_setLastDay 4 = .ok (.iload_n 2, 1) := by decide +kernel
theorem dL_setLastDay_5 : decode cL_setLastDay 5 = .ok (.invokevirtual 55, 3) := by decide +kernel
theorem dL_setLastDay_8 : decode cL_setLastDay 8 = .ok (.i2l, 1) := by decide +kernel
theorem dL_setLastDay_9 : decode cL_setLastDay 9 = .ok (.lastore, 1) := by decide +kernel
theorem dL_setLastDay_10 : decode cL_setLastDay 10 = .ok (.goto 11, 3) := by decide +kernel
theorem dL_setLastDay_13 : decode cL_setLastDay 13 = .ok (.astore 4, 2) := by decide +kernel
theorem dL_setLastDay_15 : decode cL_setLastDay 15 = .ok (.iconst 1, 1) := by decide +kernel
theorem dL_setLastDay_16 : decode cL_setLastDay 16 = .ok (.ireturn, 1) := by decide +kernel
theorem dL_setLastDay_17 : decode cL_setLastDay 17 = .ok (.astore 4, 2) := by decide +kernel
theorem dL_setLastDay_19 : decode cL_setLastDay 19 = .ok (.iconst 2, 1) := by decide +kernel
theorem dL_setLastDay_20 : decode cL_setLastDay 20 = .ok (.ireturn, 1) := by decide +kernel
theorem dL_setLastDay_21 : decode cL_setLastDay 21 = .ok (.iconst 0, 1) := by decide +kernel
theorem dL_setLastDay_22 : decode cL_setLastDay 22 = .ok (.ireturn, 1) := by decide +kernel
theorem dL_ruleAt_0 : decode cL_ruleAt 0 = .ok (.aload_n 2, 1) := by decide +kernel
theorem dL_ruleAt_1 : decode cL_ruleAt 1 = .ok (.iconst 0, 1) := by decide +kernel
theorem dL_ruleAt_2 : decode cL_ruleAt 2 = .ok (.aload_n 0, 1) := by decide +kernel
theorem dL_ruleAt_3 : decode cL_ruleAt 3 = .ok (.iload_n 1, 1) := by decide +kernel
theorem dL_ruleAt_4 : decode cL_ruleAt 4 = .ok (.invokevirtual 58, 3) := by decide +kernel
theorem dL_ruleAt_7 : decode cL_ruleAt 7 = .ok (.i2l, 1) := by decide +kernel
theorem dL_ruleAt_8 : decode cL_ruleAt 8 = .ok (.lastore, 1) := by decide +kernel
theorem dL_ruleAt_9 : decode cL_ruleAt 9 = .ok (.goto 6, 3) := by decide +kernel
theorem dL_ruleAt_12 : decode cL_ruleAt 12 = .ok (.astore_n 3, 1) := by decide +kernel
theorem dL_ruleAt_13 : decode cL_ruleAt 13 = .ok (.iconst 1, 1) := by decide +kernel
theorem dL_ruleAt_14 : decode cL_ruleAt 14 = .ok (.ireturn, 1) := by decide +kernel
theorem dL_ruleAt_15 : decode cL_ruleAt 15 = .ok (.iconst 0, 1) := by decide +kernel
theorem dL_ruleAt_16 : decode cL_ruleAt 16 = .ok (.ireturn, 1) := by decide +kernel
theorem dL_isInForce_0 : decode cL_isInForce 0 = .ok (.aload_n 2, 1) := by decide +kernel
theorem dL_isInForce_1 : decode cL_isInForce 1 = .ok (.iconst 0, 1) := by decide +kernel
theorem dL_isInForce_2 : decode cL_isInForce 2 = .ok (.aload_n 0, 1) := by decide +kernel
theorem dL_isInForce_3 : decode cL_isInForce 3 = .ok (.iload_n 1, 1) := by decide +kernel
theorem dL_isInForce_4 : decode cL_isInForce 4 = .ok (.invokevirtual 61, 3) := by decide +kernel
theorem dL_isInForce_7 : decode cL_isInForce 7 = .ok (.ifCond .eq 7, 3) := by decide +kernel
theorem dL_isInForce_10 : decode cL_isInForce 10 = .ok (.lconst 1, 1) := by decide +kernel
theorem dL_isInForce_11 : decode cL_isInForce 11 = .ok (.goto 4, 3) := by decide +kernel
theorem dL_isInForce_14 : decode cL_isInForce 14 = .ok (.lconst 0, 1) := by decide +kernel
theorem dL_isInForce_15 : decode cL_isInForce 15 = .ok (.lastore, 1) := by decide +kernel
theorem dL_isInForce_16 : decode cL_isInForce 16 = .ok (.goto 6, 3) := by decide +kernel
theorem dL_isInForce_19 : decode cL_isInForce 19 = .ok (.astore_n 3, 1) := by decide +kernel
theorem dL_isInForce_20 : decode cL_isInForce 20 = .ok (.iconst 1, 1) := by decide +kernel
theorem dL_isInForce_21 : decode cL_isInForce 21 = .ok (.ireturn, 1) := by decide +kernel
theorem dL_isInForce_22 : decode cL_isInForce 22 = .ok (.iconst 0, 1) := by decide +kernel
theorem dL_isInForce_23 : decode cL_isInForce 23 = .ok (.ireturn, 1) := by decide +kernel
theorem dL_expiring_0 : decode cL_expiring 0 = .ok (.aload_n 3, 1) := by decide +kernel
theorem dL_expiring_1 : decode cL_expiring 1 = .ok (.iconst 0, 1) := by decide +kernel
theorem dL_expiring_2 : decode cL_expiring 2 = .ok (.aload_n 0, 1) := by decide +kernel
theorem dL_expiring_3 : decode cL_expiring 3 = .ok (.iload_n 1, 1) := by decide +kernel
theorem dL_expiring_4 : decode cL_expiring 4 = .ok (.iload_n 2, 1) := by decide +kernel
theorem dL_expiring_5 : decode cL_expiring 5 = .ok (.invokevirtual 65, 3) := by decide +kernel
theorem dL_expiring_8 : decode cL_expiring 8 = .ok (.i2l, 1) := by decide +kernel
theorem dL_expiring_9 : decode cL_expiring 9 = .ok (.lastore, 1) := by decide +kernel
theorem dL_expiring_10 : decode cL_expiring 10 = .ok (.goto 7, 3) := by decide +kernel
theorem dL_expiring_13 : decode cL_expiring 13 = .ok (.astore 4, 2) := by decide +kernel
theorem dL_expiring_15 : decode cL_expiring 15 = .ok (.iconst 1, 1) := by decide +kernel
theorem dL_expiring_16 : decode cL_expiring 16 = .ok (.ireturn, 1) := by decide +kernel
theorem dL_expiring_17 : decode cL_expiring 17 = .ok (.iconst 0, 1) := by decide +kernel
theorem dL_expiring_18 : decode cL_expiring 18 = .ok (.ireturn, 1) := by decide +kernel
theorem dL_packet_0 : decode cL_packet 0 = .ok (.aload 4, 2) := by decide +kernel
theorem dL_packet_2 : decode cL_packet 2 = .ok (.iconst 0, 1) := by decide +kernel
theorem dL_packet_3 : decode cL_packet 3 = .ok (.aload_n 0, 1) := by decide +kernel
theorem dL_packet_4 : decode cL_packet 4 = .ok (.iload_n 1, 1) := by decide +kernel
theorem dL_packet_5 : decode cL_packet 5 = .ok (.iload_n 2, 1) := by decide +kernel
theorem dL_packet_6 : decode cL_packet 6 = .ok (.iload_n 3, 1) := by decide +kernel
theorem dL_packet_7 : decode cL_packet 7 = .ok (.invokevirtual 68, 3) := by decide +kernel
theorem dL_packet_10 : decode cL_packet 10 = .ok (.i2l, 1) := by decide +kernel
theorem dL_packet_11 : decode cL_packet 11 = .ok (.lastore, 1) := by decide +kernel
theorem dL_packet_12 : decode cL_packet 12 = .ok (.goto 7, 3) := by decide +kernel
theorem dL_packet_15 : decode cL_packet 15 = .ok (.astore 5, 2) := by decide +kernel
theorem dL_packet_17 : decode cL_packet 17 = .ok (.iconst 1, 1) := by decide +kernel
theorem dL_packet_18 : decode cL_packet 18 = .ok (.ireturn, 1) := by decide +kernel
theorem dL_packet_19 : decode cL_packet 19 = .ok (.iconst 0, 1) := by decide +kernel
theorem dL_packet_20 : decode cL_packet 20 = .ok (.ireturn, 1) := by decide +kernel
theorem dL_decider_0 : decode cL_decider 0 = .ok (.aload 4, 2) := by decide +kernel
theorem dL_decider_2 : decode cL_decider 2 = .ok (.iconst 0, 1) := by decide +kernel
theorem dL_decider_3 : decode cL_decider 3 = .ok (.aload_n 0, 1) := by decide +kernel
theorem dL_decider_4 : decode cL_decider 4 = .ok (.iload_n 1, 1) := by decide +kernel
theorem dL_decider_5 : decode cL_decider 5 = .ok (.iload_n 2, 1) := by decide +kernel
theorem dL_decider_6 : decode cL_decider 6 = .ok (.iload_n 3, 1) := by decide +kernel
theorem dL_decider_7 : decode cL_decider 7 = .ok (.invokevirtual 72, 3) := by decide +kernel
theorem dL_decider_10 : decode cL_decider 10 = .ok (.i2l, 1) := by decide +kernel
theorem dL_decider_11 : decode cL_decider 11 = .ok (.lastore, 1) := by decide +kernel
theorem dL_decider_12 : decode cL_decider 12 = .ok (.goto 7, 3) := by decide +kernel
theorem dL_decider_15 : decode cL_decider 15 = .ok (.astore 5, 2) := by decide +kernel
theorem dL_decider_17 : decode cL_decider 17 = .ok (.iconst 1, 1) := by decide +kernel
theorem dL_decider_18 : decode cL_decider 18 = .ok (.ireturn, 1) := by decide +kernel
theorem dL_decider_19 : decode cL_decider 19 = .ok (.iconst 0, 1) := by decide +kernel
theorem dL_decider_20 : decode cL_decider 20 = .ok (.ireturn, 1) := by decide +kernel
theorem dL_hits_0 : decode cL_hits 0 = .ok (.aload_n 2, 1) := by decide +kernel
theorem dL_hits_1 : decode cL_hits 1 = .ok (.iconst 0, 1) := by decide +kernel
theorem dL_hits_2 : decode cL_hits 2 = .ok (.aload_n 0, 1) := by decide +kernel
theorem dL_hits_3 : decode cL_hits 3 = .ok (.iload_n 1, 1) := by decide +kernel
theorem dL_hits_4 : decode cL_hits 4 = .ok (.invokevirtual 75, 3) := by decide +kernel
theorem dL_hits_7 : decode cL_hits 7 = .ok (.i2l, 1) := by decide +kernel
theorem dL_hits_8 : decode cL_hits 8 = .ok (.lastore, 1) := by decide +kernel
theorem dL_hits_9 : decode cL_hits 9 = .ok (.goto 6, 3) := by decide +kernel
theorem dL_hits_12 : decode cL_hits 12 = .ok (.astore_n 3, 1) := by decide +kernel
theorem dL_hits_13 : decode cL_hits 13 = .ok (.iconst 1, 1) := by decide +kernel
theorem dL_hits_14 : decode cL_hits 14 = .ok (.ireturn, 1) := by decide +kernel
theorem dL_hits_15 : decode cL_hits 15 = .ok (.iconst 0, 1) := by decide +kernel
theorem dL_hits_16 : decode cL_hits 16 = .ok (.ireturn, 1) := by decide +kernel
theorem dL_busyDays_0 : decode cL_busyDays 0 = .ok (.aload_n 2, 1) := by decide +kernel
theorem dL_busyDays_1 : decode cL_busyDays 1 = .ok (.iconst 0, 1) := by decide +kernel
theorem dL_busyDays_2 : decode cL_busyDays 2 = .ok (.aload_n 0, 1) := by decide +kernel
theorem dL_busyDays_3 : decode cL_busyDays 3 = .ok (.iload_n 1, 1) := by decide +kernel
theorem dL_busyDays_4 : decode cL_busyDays 4 = .ok (.invokevirtual 78, 3) := by decide +kernel
theorem dL_busyDays_7 : decode cL_busyDays 7 = .ok (.i2l, 1) := by decide +kernel
theorem dL_busyDays_8 : decode cL_busyDays 8 = .ok (.lastore, 1) := by decide +kernel
theorem dL_busyDays_9 : decode cL_busyDays 9 = .ok (.goto 6, 3) := by decide +kernel
theorem dL_busyDays_12 : decode cL_busyDays 12 = .ok (.astore_n 3, 1) := by decide +kernel
theorem dL_busyDays_13 : decode cL_busyDays 13 = .ok (.iconst 1, 1) := by decide +kernel
theorem dL_busyDays_14 : decode cL_busyDays 14 = .ok (.ireturn, 1) := by decide +kernel
theorem dL_busyDays_15 : decode cL_busyDays 15 = .ok (.iconst 0, 1) := by decide +kernel
theorem dL_busyDays_16 : decode cL_busyDays 16 = .ok (.ireturn, 1) := by decide +kernel
theorem dL_idleDays_0 : decode cL_idleDays 0 = .ok (.aload_n 2, 1) := by decide +kernel
theorem dL_idleDays_1 : decode cL_idleDays 1 = .ok (.iconst 0, 1) := by decide +kernel
theorem dL_idleDays_2 : decode cL_idleDays 2 = .ok (.aload_n 0, 1) := by decide +kernel
theorem dL_idleDays_3 : decode cL_idleDays 3 = .ok (.iload_n 1, 1) := by decide +kernel
theorem dL_idleDays_4 : decode cL_idleDays 4 = .ok (.invokevirtual 81, 3) := by decide +kernel
theorem dL_idleDays_7 : decode cL_idleDays 7 = .ok (.i2l, 1) := by decide +kernel
theorem dL_idleDays_8 : decode cL_idleDays 8 = .ok (.lastore, 1) := by decide +kernel
theorem dL_idleDays_9 : decode cL_idleDays 9 = .ok (.goto 6, 3) := by decide +kernel
theorem dL_idleDays_12 : decode cL_idleDays 12 = .ok (.astore_n 3, 1) := by decide +kernel
theorem dL_idleDays_13 : decode cL_idleDays 13 = .ok (.iconst 1, 1) := by decide +kernel
theorem dL_idleDays_14 : decode cL_idleDays 14 = .ok (.ireturn, 1) := by decide +kernel
theorem dL_idleDays_15 : decode cL_idleDays 15 = .ok (.iconst 0, 1) := by decide +kernel
theorem dL_idleDays_16 : decode cL_idleDays 16 = .ok (.ireturn, 1) := by decide +kernel
theorem dL_pass_0 : decode cL_pass 0 = .ok (.aload_n 2, 1) := by decide +kernel
theorem dL_pass_1 : decode cL_pass 1 = .ok (.iconst 0, 1) := by decide +kernel
theorem dL_pass_2 : decode cL_pass 2 = .ok (.aload_n 0, 1) := by decide +kernel
theorem dL_pass_3 : decode cL_pass 3 = .ok (.iload_n 1, 1) := by decide +kernel
theorem dL_pass_4 : decode cL_pass 4 = .ok (.invokevirtual 84, 3) := by decide +kernel
theorem dL_pass_7 : decode cL_pass 7 = .ok (.i2l, 1) := by decide +kernel
theorem dL_pass_8 : decode cL_pass 8 = .ok (.lastore, 1) := by decide +kernel
theorem dL_pass_9 : decode cL_pass 9 = .ok (.goto 6, 3) := by decide +kernel
theorem dL_pass_12 : decode cL_pass 12 = .ok (.astore_n 3, 1) := by decide +kernel
theorem dL_pass_13 : decode cL_pass 13 = .ok (.iconst 1, 1) := by decide +kernel
theorem dL_pass_14 : decode cL_pass 14 = .ok (.ireturn, 1) := by decide +kernel
theorem dL_pass_15 : decode cL_pass 15 = .ok (.iconst 0, 1) := by decide +kernel
theorem dL_pass_16 : decode cL_pass 16 = .ok (.ireturn, 1) := by decide +kernel
theorem dL_matched_0 : decode cL_matched 0 = .ok (.aload_n 2, 1) := by decide +kernel
theorem dL_matched_1 : decode cL_matched 1 = .ok (.iconst 0, 1) := by decide +kernel
theorem dL_matched_2 : decode cL_matched 2 = .ok (.aload_n 0, 1) := by decide +kernel
theorem dL_matched_3 : decode cL_matched 3 = .ok (.iload_n 1, 1) := by decide +kernel
theorem dL_matched_4 : decode cL_matched 4 = .ok (.invokevirtual 87, 3) := by decide +kernel
theorem dL_matched_7 : decode cL_matched 7 = .ok (.i2l, 1) := by decide +kernel
theorem dL_matched_8 : decode cL_matched 8 = .ok (.lastore, 1) := by decide +kernel
theorem dL_matched_9 : decode cL_matched 9 = .ok (.goto 6, 3) := by decide +kernel
theorem dL_matched_12 : decode cL_matched 12 = .ok (.astore_n 3, 1) := by decide +kernel
theorem dL_matched_13 : decode cL_matched 13 = .ok (.iconst 1, 1) := by decide +kernel
theorem dL_matched_14 : decode cL_matched 14 = .ok (.ireturn, 1) := by decide +kernel
theorem dL_matched_15 : decode cL_matched 15 = .ok (.iconst 0, 1) := by decide +kernel
theorem dL_matched_16 : decode cL_matched 16 = .ok (.ireturn, 1) := by decide +kernel
theorem dL_decided_0 : decode cL_decided 0 = .ok (.aload_n 2, 1) := by decide +kernel
theorem dL_decided_1 : decode cL_decided 1 = .ok (.iconst 0, 1) := by decide +kernel
theorem dL_decided_2 : decode cL_decided 2 = .ok (.aload_n 0, 1) := by decide +kernel
theorem dL_decided_3 : decode cL_decided 3 = .ok (.iload_n 1, 1) := by decide +kernel
theorem dL_decided_4 : decode cL_decided 4 = .ok (.invokevirtual 90, 3) := by decide +kernel
theorem dL_decided_7 : decode cL_decided 7 = .ok (.i2l, 1) := by decide +kernel
theorem dL_decided_8 : decode cL_decided 8 = .ok (.lastore, 1) := by decide +kernel
theorem dL_decided_9 : decode cL_decided 9 = .ok (.goto 6, 3) := by decide +kernel
theorem dL_decided_12 : decode cL_decided 12 = .ok (.astore_n 3, 1) := by decide +kernel
theorem dL_decided_13 : decode cL_decided 13 = .ok (.iconst 1, 1) := by decide +kernel
theorem dL_decided_14 : decode cL_decided 14 = .ok (.ireturn, 1) := by decide +kernel
theorem dL_decided_15 : decode cL_decided 15 = .ok (.iconst 0, 1) := by decide +kernel
theorem dL_decided_16 : decode cL_decided 16 = .ok (.ireturn, 1) := by decide +kernel
theorem dL_decidedBySamples_0 : decode cL_decidedBySamples 0 = .ok (.aload_n 2, 1) := by decide +kernel
theorem dL_decidedBySamples_1 : decode cL_decidedBySamples 1 = .ok (.iconst 0, 1) := by decide +kernel
theorem dL_decidedBySamples_2 : decode cL_decidedBySamples 2 = .ok (.aload_n 0, 1) := by decide +kernel
theorem dL_decidedBySamples_3 : decode cL_decidedBySamples 3 = .ok (.iload_n 1, 1) := by decide +kernel
theorem dL_decidedBySamples_4 : decode cL_decidedBySamples 4 = .ok (.invokevirtual 93, 3) := by decide +kernel
theorem dL_decidedBySamples_7 : decode cL_decidedBySamples 7 = .ok (.i2l, 1) := by decide +kernel
theorem dL_decidedBySamples_8 : decode cL_decidedBySamples 8 = .ok (.lastore, 1) := by decide +kernel
theorem dL_decidedBySamples_9 : decode cL_decidedBySamples 9 = .ok (.goto 6, 3) := by decide +kernel
theorem dL_decidedBySamples_12 : decode cL_decidedBySamples 12 = .ok (.astore_n 3, 1) := by decide +kernel
theorem dL_decidedBySamples_13 : decode cL_decidedBySamples 13 = .ok (.iconst 1, 1) := by decide +kernel
theorem dL_decidedBySamples_14 : decode cL_decidedBySamples 14 = .ok (.ireturn, 1) := by decide +kernel
theorem dL_decidedBySamples_15 : decode cL_decidedBySamples 15 = .ok (.iconst 0, 1) := by decide +kernel
theorem dL_decidedBySamples_16 : decode cL_decidedBySamples 16 = .ok (.ireturn, 1) := by decide +kernel
theorem dL_isShadowed_0 : decode cL_isShadowed 0 = .ok (.aload_n 2, 1) := by decide +kernel
theorem dL_isShadowed_1 : decode cL_isShadowed 1 = .ok (.iconst 0, 1) := by decide +kernel
theorem dL_isShadowed_2 : decode cL_isShadowed 2 = .ok (.aload_n 0, 1) := by decide +kernel
theorem dL_isShadowed_3 : decode cL_isShadowed 3 = .ok (.iload_n 1, 1) := by decide +kernel
theorem dL_isShadowed_4 : decode cL_isShadowed 4 = .ok (.invokevirtual 96, 3) := by decide +kernel
theorem dL_isShadowed_7 : decode cL_isShadowed 7 = .ok (.ifCond .eq 7, 3) := by decide +kernel
theorem dL_isShadowed_10 : decode cL_isShadowed 10 = .ok (.lconst 1, 1) := by decide +kernel
theorem dL_isShadowed_11 : decode cL_isShadowed 11 = .ok (.goto 4, 3) := by decide +kernel
theorem dL_isShadowed_14 : decode cL_isShadowed 14 = .ok (.lconst 0, 1) := by decide +kernel
theorem dL_isShadowed_15 : decode cL_isShadowed 15 = .ok (.lastore, 1) := by decide +kernel
theorem dL_isShadowed_16 : decode cL_isShadowed 16 = .ok (.goto 6, 3) := by decide +kernel
theorem dL_isShadowed_19 : decode cL_isShadowed 19 = .ok (.astore_n 3, 1) := by decide +kernel
theorem dL_isShadowed_20 : decode cL_isShadowed 20 = .ok (.iconst 1, 1) := by decide +kernel
theorem dL_isShadowed_21 : decode cL_isShadowed 21 = .ok (.ireturn, 1) := by decide +kernel
theorem dL_isShadowed_22 : decode cL_isShadowed 22 = .ok (.iconst 0, 1) := by decide +kernel
theorem dL_isShadowed_23 : decode cL_isShadowed 23 = .ok (.ireturn, 1) := by decide +kernel
theorem dL_mainShadow_0 : decode cL_mainShadow 0 = .ok (.aload_n 2, 1) := by decide +kernel
theorem dL_mainShadow_1 : decode cL_mainShadow 1 = .ok (.iconst 0, 1) := by decide +kernel
theorem dL_mainShadow_2 : decode cL_mainShadow 2 = .ok (.aload_n 0, 1) := by decide +kernel
theorem dL_mainShadow_3 : decode cL_mainShadow 3 = .ok (.iload_n 1, 1) := by decide +kernel
theorem dL_mainShadow_4 : decode cL_mainShadow 4 = .ok (.invokevirtual 99, 3) := by decide +kernel
theorem dL_mainShadow_7 : decode cL_mainShadow 7 = .ok (.i2l, 1) := by decide +kernel
theorem dL_mainShadow_8 : decode cL_mainShadow 8 = .ok (.lastore, 1) := by decide +kernel
theorem dL_mainShadow_9 : decode cL_mainShadow 9 = .ok (.goto 6, 3) := by decide +kernel
theorem dL_mainShadow_12 : decode cL_mainShadow 12 = .ok (.astore_n 3, 1) := by decide +kernel
theorem dL_mainShadow_13 : decode cL_mainShadow 13 = .ok (.iconst 1, 1) := by decide +kernel
theorem dL_mainShadow_14 : decode cL_mainShadow 14 = .ok (.ireturn, 1) := by decide +kernel
theorem dL_mainShadow_15 : decode cL_mainShadow 15 = .ok (.iconst 0, 1) := by decide +kernel
theorem dL_mainShadow_16 : decode cL_mainShadow 16 = .ok (.ireturn, 1) := by decide +kernel
theorem dL_changedByMove_0 : decode cL_changedByMove 0 = .ok (.aload_n 3, 1) := by decide +kernel
theorem dL_changedByMove_1 : decode cL_changedByMove 1 = .ok (.iconst 0, 1) := by decide +kernel
theorem dL_changedByMove_2 : decode cL_changedByMove 2 = .ok (.aload_n 0, 1) := by decide +kernel
theorem dL_changedByMove_3 : decode cL_changedByMove 3 = .ok (.iload_n 1, 1) := by decide +kernel
theorem dL_changedByMove_4 : decode cL_changedByMove 4 = .ok (.iload_n 2, 1) := by decide +kernel
theorem dL_changedByMove_5 : decode cL_changedByMove 5 = .ok (.invokevirtual 102, 3) := by decide +kernel
theorem dL_changedByMove_8 : decode cL_changedByMove 8 = .ok (.i2l, 1) := by decide +kernel
theorem dL_changedByMove_9 : decode cL_changedByMove 9 = .ok (.lastore, 1) := by decide +kernel
theorem dL_changedByMove_10 : decode cL_changedByMove 10 = .ok (.goto 11, 3) := by decide +kernel
theorem dL_changedByMove_13 : decode cL_changedByMove 13 = .ok (.astore 4, 2) := by decide +kernel
theorem dL_changedByMove_15 : decode cL_changedByMove 15 = .ok (.iconst 1, 1) := by decide +kernel
theorem dL_changedByMove_16 : decode cL_changedByMove 16 = .ok (.ireturn, 1) := by decide +kernel
theorem dL_changedByMove_17 : decode cL_changedByMove 17 = .ok (.astore 4, 2) := by decide +kernel
theorem dL_changedByMove_19 : decode cL_changedByMove 19 = .ok (.iconst 2, 1) := by decide +kernel
theorem dL_changedByMove_20 : decode cL_changedByMove 20 = .ok (.ireturn, 1) := by decide +kernel
theorem dL_changedByMove_21 : decode cL_changedByMove 21 = .ok (.iconst 0, 1) := by decide +kernel
theorem dL_changedByMove_22 : decode cL_changedByMove 22 = .ok (.ireturn, 1) := by decide +kernel
theorem dL_move_0 : decode cL_move 0 = .ok (.aload_n 3, 1) := by decide +kernel
theorem dL_move_1 : decode cL_move 1 = .ok (.iconst 0, 1) := by decide +kernel
theorem dL_move_2 : decode cL_move 2 = .ok (.aload_n 0, 1) := by decide +kernel
theorem dL_move_3 : decode cL_move 3 = .ok (.iload_n 1, 1) := by decide +kernel
theorem dL_move_4 : decode cL_move 4 = .ok (.iload_n 2, 1) := by decide +kernel
theorem dL_move_5 : decode cL_move 5 = .ok (.invokevirtual 105, 3) := by decide +kernel
theorem dL_move_8 : decode cL_move 8 = .ok (.i2l, 1) := by decide +kernel
theorem dL_move_9 : decode cL_move 9 = .ok (.lastore, 1) := by decide +kernel
theorem dL_move_10 : decode cL_move 10 = .ok (.goto 15, 3) := by decide +kernel
theorem dL_move_13 : decode cL_move 13 = .ok (.astore 4, 2) := by decide +kernel
theorem dL_move_15 : decode cL_move 15 = .ok (.iconst 1, 1) := by decide +kernel
theorem dL_move_16 : decode cL_move 16 = .ok (.ireturn, 1) := by decide +kernel
theorem dL_move_17 : decode cL_move 17 = .ok (.astore 4, 2) := by decide +kernel
theorem dL_move_19 : decode cL_move 19 = .ok (.iconst 2, 1) := by decide +kernel
theorem dL_move_20 : decode cL_move 20 = .ok (.ireturn, 1) := by decide +kernel
theorem dL_move_21 : decode cL_move 21 = .ok (.astore 4, 2) := by decide +kernel
theorem dL_move_23 : decode cL_move 23 = .ok (.iconst 3, 1) := by decide +kernel
theorem dL_move_24 : decode cL_move 24 = .ok (.ireturn, 1) := by decide +kernel
theorem dL_move_25 : decode cL_move 25 = .ok (.iconst 0, 1) := by decide +kernel
theorem dL_move_26 : decode cL_move 26 = .ok (.ireturn, 1) := by decide +kernel
theorem dL_changedByRange_0 : decode cL_changedByRange 0 = .ok (.aload 4, 2) := by decide +kernel
theorem dL_changedByRange_2 : decode cL_changedByRange 2 = .ok (.iconst 0, 1) := by decide +kernel
theorem dL_changedByRange_3 : decode cL_changedByRange 3 = .ok (.aload_n 0, 1) := by decide +kernel
theorem dL_changedByRange_4 : decode cL_changedByRange 4 = .ok (.iload_n 1, 1) := by decide +kernel
theorem dL_changedByRange_5 : decode cL_changedByRange 5 = .ok (.iload_n 2, 1) := by decide +kernel
theorem dL_changedByRange_6 : decode cL_changedByRange 6 = .ok (.iload_n 3, 1) := by decide +kernel
theorem dL_changedByRange_7 : decode cL_changedByRange 7 = .ok (.invokevirtual 108, 3) := by decide +kernel
theorem dL_changedByRange_10 : decode cL_changedByRange 10 = .ok (.i2l, 1) := by decide +kernel
theorem dL_changedByRange_11 : decode cL_changedByRange 11 = .ok (.lastore, 1) := by decide +kernel
theorem dL_changedByRange_12 : decode cL_changedByRange 12 = .ok (.goto 11, 3) := by decide +kernel
theorem dL_changedByRange_15 : decode cL_changedByRange 15 = .ok (.astore 5, 2) := by decide +kernel
theorem dL_changedByRange_17 : decode cL_changedByRange 17 = .ok (.iconst 1, 1) := by decide +kernel
theorem dL_changedByRange_18 : decode cL_changedByRange 18 = .ok (.ireturn, 1) := by decide +kernel
theorem dL_changedByRange_19 : decode cL_changedByRange 19 = .ok (.astore 5, 2) := by decide +kernel
theorem dL_changedByRange_21 : decode cL_changedByRange 21 = .ok (.iconst 2, 1) := by decide +kernel
theorem dL_changedByRange_22 : decode cL_changedByRange 22 = .ok (.ireturn, 1) := by decide +kernel
theorem dL_changedByRange_23 : decode cL_changedByRange 23 = .ok (.iconst 0, 1) := by decide +kernel
theorem dL_changedByRange_24 : decode cL_changedByRange 24 = .ok (.ireturn, 1) := by decide +kernel
theorem dL_shadowedShare_0 : decode cL_shadowedShare 0 = .ok (.aload_n 1, 1) := by decide +kernel
theorem dL_shadowedShare_1 : decode cL_shadowedShare 1 = .ok (.iconst 0, 1) := by decide +kernel
theorem dL_shadowedShare_2 : decode cL_shadowedShare 2 = .ok (.aload_n 0, 1) := by decide +kernel
theorem dL_shadowedShare_3 : decode cL_shadowedShare 3 = .ok (.invokevirtual 111, 3) := by decide +kernel
theorem dL_shadowedShare_6 : decode cL_shadowedShare 6 = .ok (.f2d, 1) := by decide +kernel
theorem dL_shadowedShare_7 : decode cL_shadowedShare 7 = .ok (.dastore, 1) := by decide +kernel
theorem dL_shadowedShare_8 : decode cL_shadowedShare 8 = .ok (.goto 6, 3) := by decide +kernel
theorem dL_shadowedShare_11 : decode cL_shadowedShare 11 = .ok (.astore_n 2, 1) := by decide +kernel
theorem dL_shadowedShare_12 : decode cL_shadowedShare 12 = .ok (.iconst 1, 1) := by decide +kernel
theorem dL_shadowedShare_13 : decode cL_shadowedShare 13 = .ok (.ireturn, 1) := by decide +kernel
theorem dL_shadowedShare_14 : decode cL_shadowedShare 14 = .ok (.iconst 0, 1) := by decide +kernel
theorem dL_shadowedShare_15 : decode cL_shadowedShare 15 = .ok (.ireturn, 1) := by decide +kernel
theorem dL_meanHits_0 : decode cL_meanHits 0 = .ok (.aload_n 1, 1) := by decide +kernel
theorem dL_meanHits_1 : decode cL_meanHits 1 = .ok (.iconst 0, 1) := by decide +kernel
theorem dL_meanHits_2 : decode cL_meanHits 2 = .ok (.aload_n 0, 1) := by decide +kernel
theorem dL_meanHits_3 : decode cL_meanHits 3 = .ok (.invokevirtual 117, 3) := by decide +kernel
theorem dL_meanHits_6 : decode cL_meanHits 6 = .ok (.dastore, 1) := by decide +kernel
theorem dL_meanHits_7 : decode cL_meanHits 7 = .ok (.goto 6, 3) := by decide +kernel
theorem dL_meanHits_10 : decode cL_meanHits 10 = .ok (.astore_n 2, 1) := by decide +kernel
theorem dL_meanHits_11 : decode cL_meanHits 11 = .ok (.iconst 1, 1) := by decide +kernel
theorem dL_meanHits_12 : decode cL_meanHits 12 = .ok (.ireturn, 1) := by decide +kernel
theorem dL_meanHits_13 : decode cL_meanHits 13 = .ok (.iconst 0, 1) := by decide +kernel
theorem dL_meanHits_14 : decode cL_meanHits 14 = .ok (.ireturn, 1) := by decide +kernel
end
section
theorem dX4_init_0 : decode cX4_init 0 = .ok (.aload_n 0, 1) := by decide +kernel
theorem dX4_init_1 : decode cX4_init 1 = .ok (.invokespecial 1, 3) := by decide +kernel
theorem dX4_init_4 : decode cX4_init 4 = .ok (.aload_n 0, 1) := by decide +kernel
theorem dX4_init_5 : decode cX4_init 5 = .ok (.bipush 8, 2) := by decide +kernel
theorem dX4_init_7 : decode cX4_init 7 = .ok (.newarray .int, 2) := by decide +kernel
theorem dX4_init_9 : decode cX4_init 9 = .ok (.putfield 7, 3) := by decide +kernel
theorem dX4_init_12 : decode cX4_init 12 = .ok (.aload_n 0, 1) := by decide +kernel
theorem dX4_init_13 : decode cX4_init 13 = .ok (.bipush 24, 2) := by decide +kernel
theorem dX4_init_15 : decode cX4_init 15 = .ok (.newarray .int, 2) := by decide +kernel
theorem dX4_init_17 : decode cX4_init 17 = .ok (.putfield 13, 3) := by decide +kernel
theorem dX4_init_20 : decode cX4_init 20 = .ok (.aload_n 0, 1) := by decide +kernel
theorem dX4_init_21 : decode cX4_init 21 = .ok (.bipush 24, 2) := by decide +kernel
theorem dX4_init_23 : decode cX4_init 23 = .ok (.newarray .int, 2) := by decide +kernel
theorem dX4_init_25 : decode cX4_init 25 = .ok (.putfield 16, 3) := by decide +kernel
theorem dX4_init_28 : decode cX4_init 28 = .ok (.aload_n 0, 1) := by decide +kernel
theorem dX4_init_29 : decode cX4_init 29 = .ok (.bipush 8, 2) := by decide +kernel
theorem dX4_init_31 : decode cX4_init 31 = .ok (.newarray .int, 2) := by decide +kernel
theorem dX4_init_33 : decode cX4_init 33 = .ok (.putfield 19, 3) := by decide +kernel
theorem dX4_init_36 : decode cX4_init 36 = .ok (.aload_n 0, 1) := by decide +kernel
theorem dX4_init_37 : decode cX4_init 37 = .ok (.bipush 16, 2) := by decide +kernel
theorem dX4_init_39 : decode cX4_init 39 = .ok (.newarray .int, 2) := by decide +kernel
theorem dX4_init_41 : decode cX4_init 41 = .ok (.putfield 22, 3) := by decide +kernel
theorem dX4_init_44 : decode cX4_init 44 = .ok (.aload_n 0, 1) := by decide +kernel
theorem dX4_init_45 : decode cX4_init 45 = .ok (.bipush 8, 2) := by decide +kernel
theorem dX4_init_47 : decode cX4_init 47 = .ok (.newarray .int, 2) := by decide +kernel
theorem dX4_init_49 : decode cX4_init 49 = .ok (.putfield 25, 3) := by decide +kernel
theorem dX4_init_52 : decode cX4_init 52 = .ok (.aload_n 0, 1) := by decide +kernel
theorem dX4_init_53 : decode cX4_init 53 = .ok (.bipush 8, 2) := by decide +kernel
theorem dX4_init_55 : decode cX4_init 55 = .ok (.newarray .boolean, 2) := by decide +kernel
theorem dX4_init_57 : decode cX4_init 57 = .ok (.putfield 28, 3) := by decide +kernel
theorem dX4_init_60 : decode cX4_init 60 = .ok (.aload_n 0, 1) := by decide +kernel
theorem dX4_init_61 : decode cX4_init 61 = .ok (.bipush 8, 2) := by decide +kernel
theorem dX4_init_63 : decode cX4_init 63 = .ok (.newarray .int, 2) := by decide +kernel
theorem dX4_init_65 : decode cX4_init 65 = .ok (.putfield 32, 3) := by decide +kernel
theorem dX4_init_68 : decode cX4_init 68 = .ok (.aload_n 0, 1) := by decide +kernel
theorem dX4_init_69 : decode cX4_init 69 = .ok (.bipush 8, 2) := by decide +kernel
theorem dX4_init_71 : decode cX4_init 71 = .ok (.newarray .boolean, 2) := by decide +kernel
theorem dX4_init_73 : decode cX4_init 73 = .ok (.putfield 35, 3) := by decide +kernel
theorem dX4_init_76 : decode cX4_init 76 = .ok (.aload_n 0, 1) := by decide +kernel
theorem dX4_init_77 : decode cX4_init 77 = .ok (.bipush 24, 2) := by decide +kernel
theorem dX4_init_79 : decode cX4_init 79 = .ok (.newarray .int, 2) := by decide +kernel
theorem dX4_init_81 : decode cX4_init 81 = .ok (.putfield 38, 3) := by decide +kernel
theorem dX4_init_84 : decode cX4_init 84 = .ok (.aload_n 0, 1) := by decide +kernel
theorem dX4_init_85 : decode cX4_init 85 = .ok (.bipush 8, 2) := by decide +kernel
theorem dX4_init_87 : decode cX4_init 87 = .ok (.newarray .int, 2) := by decide +kernel
theorem dX4_init_89 : decode cX4_init 89 = .ok (.putfield 41, 3) := by decide +kernel
theorem dX4_init_92 : decode cX4_init 92 = .ok (.aload_n 0, 1) := by decide +kernel
theorem dX4_init_93 : decode cX4_init 93 = .ok (.bipush 8, 2) := by decide +kernel
theorem dX4_init_95 : decode cX4_init 95 = .ok (.newarray .int, 2) := by decide +kernel
theorem dX4_init_97 : decode cX4_init 97 = .ok (.putfield 44, 3) := by decide +kernel
theorem dX4_init_100 : decode cX4_init 100 = .ok (.aload_n 0, 1) := by decide +kernel
theorem dX4_init_101 : decode cX4_init 101 = .ok (.bipush 8, 2) := by decide +kernel
theorem dX4_init_103 : decode cX4_init 103 = .ok (.newarray .int, 2) := by decide +kernel
theorem dX4_init_105 : decode cX4_init 105 = .ok (.putfield 47, 3) := by decide +kernel
theorem dX4_init_108 : decode cX4_init 108 = .ok (.aload_n 0, 1) := by decide +kernel
theorem dX4_init_109 : decode cX4_init 109 = .ok (.bipush 8, 2) := by decide +kernel
theorem dX4_init_111 : decode cX4_init 111 = .ok (.newarray .int, 2) := by decide +kernel
theorem dX4_init_113 : decode cX4_init 113 = .ok (.putfield 50, 3) := by decide +kernel
theorem dX4_init_116 : decode cX4_init 116 = .ok (.aload_n 0, 1) := by decide +kernel
theorem dX4_init_117 : decode cX4_init 117 = .ok (.bipush 8, 2) := by decide +kernel
theorem dX4_init_119 : decode cX4_init 119 = .ok (.newarray .int, 2) := by decide +kernel
theorem dX4_init_121 : decode cX4_init 121 = .ok (.putfield 53, 3) := by decide +kernel
theorem dX4_init_124 : decode cX4_init 124 = .ok (.aload_n 0, 1) := by decide +kernel
theorem dX4_init_125 : decode cX4_init 125 = .ok (.bipush 8, 2) := by decide +kernel
theorem dX4_init_127 : decode cX4_init 127 = .ok (.newarray .int, 2) := by decide +kernel
theorem dX4_init_129 : decode cX4_init 129 = .ok (.putfield 56, 3) := by decide +kernel
theorem dX4_init_132 : decode cX4_init 132 = .ok (.aload_n 0, 1) := by decide +kernel
theorem dX4_init_133 : decode cX4_init 133 = .ok (.bipush 8, 2) := by decide +kernel
theorem dX4_init_135 : decode cX4_init 135 = .ok (.newarray .int, 2) := by decide +kernel
theorem dX4_init_137 : decode cX4_init 137 = .ok (.putfield 59, 3) := by decide +kernel
theorem dX4_init_140 : decode cX4_init 140 = .ok (.aload_n 0, 1) := by decide +kernel
theorem dX4_init_141 : decode cX4_init 141 = .ok (.sipush 194, 3) := by decide +kernel
theorem dX4_init_144 : decode cX4_init 144 = .ok (.newarray .int, 2) := by decide +kernel
theorem dX4_init_146 : decode cX4_init 146 = .ok (.putfield 62, 3) := by decide +kernel
theorem dX4_init_149 : decode cX4_init 149 = .ok (.aload_n 0, 1) := by decide +kernel
theorem dX4_init_150 : decode cX4_init 150 = .ok (.bipush 8, 2) := by decide +kernel
theorem dX4_init_152 : decode cX4_init 152 = .ok (.newarray .int, 2) := by decide +kernel
theorem dX4_init_154 : decode cX4_init 154 = .ok (.putfield 65, 3) := by decide +kernel
theorem dX4_init_157 : decode cX4_init 157 = .ok (.return_, 1) := by decide +kernel
theorem dX4_thrown_0 : decode cX4_thrown 0 = .ok (.aload_n 0, 1) := by decide +kernel
theorem dX4_thrown_1 : decode cX4_thrown 1 = .ok (.getfield 68, 3) := by decide +kernel
theorem dX4_thrown_4 : decode cX4_thrown 4 = .ok (.ireturn, 1) := by decide +kernel
theorem dX4_in_0 : decode cX4_in 0 = .ok (.iload_n 0, 1) := by decide +kernel
theorem dX4_in_1 : decode cX4_in 1 = .ok (.iload_n 1, 1) := by decide +kernel
theorem dX4_in_2 : decode cX4_in 2 = .ok (.if_icmp .lt 12, 3) := by decide +kernel
theorem dX4_in_5 : decode cX4_in 5 = .ok (.iload_n 0, 1) := by decide +kernel
theorem dX4_in_6 : decode cX4_in 6 = .ok (.iload_n 2, 1) := by decide +kernel
theorem dX4_in_7 : decode cX4_in 7 = .ok (.if_icmp .gt 7, 3) := by decide +kernel
theorem dX4_in_10 : decode cX4_in 10 = .ok (.iconst 1, 1) := by decide +kernel
theorem dX4_in_11 : decode cX4_in 11 = .ok (.goto 4, 3) := by decide +kernel
theorem dX4_in_14 : decode cX4_in 14 = .ok (.iconst 0, 1) := by decide +kernel
theorem dX4_in_15 : decode cX4_in 15 = .ok (.ireturn, 1) := by decide +kernel
theorem dX4_fails_0 : decode cX4_fails 0 = .ok (.aload_n 0, 1) := by decide +kernel
theorem dX4_fails_1 : decode cX4_fails 1 = .ok (.iload_n 1, 1) := by decide +kernel
theorem dX4_fails_2 : decode cX4_fails 2 = .ok (.putfield 68, 3) := by decide +kernel
theorem dX4_fails_5 : decode cX4_fails 5 = .ok (.iconst 0, 1) := by decide +kernel
theorem dX4_fails_6 : decode cX4_fails 6 = .ok (.ireturn, 1) := by decide +kernel
theorem dX4_isObject_0 : decode cX4_isObject 0 = .ok (.iload_n 1, 1) := by decide +kernel
theorem dX4_isObject_1 : decode cX4_isObject 1 = .ok (.iconst 0, 1) := by decide +kernel
theorem dX4_isObject_2 : decode cX4_isObject 2 = .ok (.aload_n 0, 1) := by decide +kernel
theorem dX4_isObject_3 : decode cX4_isObject 3 = .ok (.getfield 72, 3) := by decide +kernel
theorem dX4_isObject_6 : decode cX4_isObject 6 = .ok (.iconst 1, 1) := by decide +kernel
theorem dX4_isObject_7 : decode cX4_isObject 7 = .ok (.isub, 1) := by decide +kernel
theorem dX4_isObject_8 : decode cX4_isObject 8 = .ok (.invokestatic 75, 3) := by decide +kernel
theorem dX4_isObject_11 : decode cX4_isObject 11 = .ok (.ireturn, 1) := by decide +kernel
theorem dX4_positionOf_0 : decode cX4_positionOf 0 = .ok (.iconst 0, 1) := by decide +kernel
theorem dX4_positionOf_1 : decode cX4_positionOf 1 = .ok (.istore_n 2, 1) := by decide +kernel
theorem dX4_positionOf_2 : decode cX4_positionOf 2 = .ok (.iload_n 2, 1) := by decide +kernel
theorem dX4_positionOf_3 : decode cX4_positionOf 3 = .ok (.aload_n 0, 1) := by decide +kernel
theorem dX4_positionOf_4 : decode cX4_positionOf 4 = .ok (.getfield 79, 3) := by decide +kernel
theorem dX4_positionOf_7 : decode cX4_positionOf 7 = .ok (.if_icmp .ge 26, 3) := by decide +kernel
theorem dX4_positionOf_10 : decode cX4_positionOf 10 = .ok (.aload_n 0, 1) := by decide +kernel
theorem dX4_positionOf_11 : decode cX4_positionOf 11 = .ok (.getfield 32, 3) := by decide +kernel
theorem dX4_positionOf_14 : decode cX4_positionOf 14 = .ok (.aload_n 0, 1) := by decide +kernel
theorem dX4_positionOf_15 : decode cX4_positionOf 15 = .ok (.getfield 25, 3) := by decide +kernel
theorem dX4_positionOf_18 : decode cX4_positionOf 18 = .ok (.iload_n 2, 1) := by decide +kernel
theorem dX4_positionOf_19 : decode cX4_positionOf 19 = .ok (.iaload, 1) := by decide +kernel
theorem dX4_positionOf_20 : decode cX4_positionOf 20 = .ok (.iaload, 1) := by decide +kernel
theorem dX4_positionOf_21 : decode cX4_positionOf 21 = .ok (.iload_n 1, 1) := by decide +kernel
theorem dX4_positionOf_22 : decode cX4_positionOf 22 = .ok (.if_icmp .ne 5, 3) := by decide +kernel
theorem dX4_positionOf_25 : decode cX4_positionOf 25 = .ok (.iload_n 2, 1) := by decide +kernel
theorem dX4_positionOf_26 : decode cX4_positionOf 26 = .ok (.ireturn, 1) := by decide +kernel
theorem dX4_positionOf_27 : decode cX4_positionOf 27 = .ok (.iinc 2 1, 3) := by decide +kernel
theorem dX4_positionOf_30 : decode cX4_positionOf 30 = .ok (.goto (-28), 3) := by decide +kernel
theorem dX4_positionOf_33 : decode cX4_positionOf 33 = .ok (.iconst (-1), 1) := by decide +kernel
theorem dX4_positionOf_34 : decode cX4_positionOf 34 = .ok (.ireturn, 1) := by decide +kernel
theorem dX4_slotOf_0 : decode cX4_slotOf 0 = .ok (.aload_n 0, 1) := by decide +kernel
theorem dX4_slotOf_1 : decode cX4_slotOf 1 = .ok (.iload_n 1, 1) := by decide +kernel
theorem dX4_slotOf_2 : decode cX4_slotOf 2 = .ok (.invokevirtual 82, 3) := by decide +kernel
theorem dX4_slotOf_5 : decode cX4_slotOf 5 = .ok (.istore_n 2, 1) := by decide +kernel
theorem dX4_slotOf_6 : decode cX4_slotOf 6 = .ok (.aload_n 0, 1) := by decide +kernel
theorem dX4_slotOf_7 : decode cX4_slotOf 7 = .ok (.iload_n 2, 1) := by decide +kernel
theorem dX4_slotOf_8 : decode cX4_slotOf 8 = .ok (.iconst (-1), 1) := by decide +kernel
theorem dX4_slotOf_9 : decode cX4_slotOf 9 = .ok (.if_icmp .ne 7, 3) := by decide +kernel
theorem dX4_slotOf_12 : decode cX4_slotOf 12 = .ok (.iconst 1, 1) := by decide +kernel
theorem dX4_slotOf_13 : decode cX4_slotOf 13 = .ok (.goto 4, 3) := by decide +kernel
theorem dX4_slotOf_16 : decode cX4_slotOf 16 = .ok (.iconst 0, 1) := by decide +kernel
theorem dX4_slotOf_17 : decode cX4_slotOf 17 = .ok (.putfield 68, 3) := by decide +kernel
theorem dX4_slotOf_20 : decode cX4_slotOf 20 = .ok (.iload_n 2, 1) := by decide +kernel
theorem dX4_slotOf_21 : decode cX4_slotOf 21 = .ok (.iconst (-1), 1) := by decide +kernel
theorem dX4_slotOf_22 : decode cX4_slotOf 22 = .ok (.if_icmp .ne 7, 3) := by decide +kernel
theorem dX4_slotOf_25 : decode cX4_slotOf 25 = .ok (.iconst 0, 1) := by decide +kernel
theorem dX4_slotOf_26 : decode cX4_slotOf 26 = .ok (.goto 9, 3) := by decide +kernel
theorem dX4_slotOf_29 : decode cX4_slotOf 29 = .ok (.aload_n 0, 1) := by decide +kernel
theorem dX4_slotOf_30 : decode cX4_slotOf 30 = .ok (.getfield 25, 3) := by decide +kernel
theorem dX4_slotOf_33 : decode cX4_slotOf 33 = .ok (.iload_n 2, 1) := by decide +kernel
theorem dX4_slotOf_34 : decode cX4_slotOf 34 = .ok (.iaload, 1) := by decide +kernel
theorem dX4_slotOf_35 : decode cX4_slotOf 35 = .ok (.ireturn, 1) := by decide +kernel
theorem dX4_span_0 : decode cX4_span 0 = .ok (.iconst 0, 1) := by decide +kernel
theorem dX4_span_1 : decode cX4_span 1 = .ok (.istore_n 2, 1) := by decide +kernel
theorem dX4_span_2 : decode cX4_span 2 = .ok (.iload_n 0, 1) := by decide +kernel
theorem dX4_span_3 : decode cX4_span 3 = .ok (.istore_n 3, 1) := by decide +kernel
theorem dX4_span_4 : decode cX4_span 4 = .ok (.iload_n 3, 1) := by decide +kernel
theorem dX4_span_5 : decode cX4_span 5 = .ok (.iload_n 1, 1) := by decide +kernel
theorem dX4_span_6 : decode cX4_span 6 = .ok (.if_icmp .gt 15, 3) := by decide +kernel
theorem dX4_span_9 : decode cX4_span 9 = .ok (.iload_n 2, 1) := by decide +kernel
theorem dX4_span_10 : decode cX4_span 10 = .ok (.iconst 1, 1) := by decide +kernel
theorem dX4_span_11 : decode cX4_span 11 = .ok (.iload_n 3, 1) := by decide +kernel
theorem dX4_span_12 : decode cX4_span 12 = .ok (.ishl, 1) := by decide +kernel
theorem dX4_span_13 : decode cX4_span 13 = .ok (.ior, 1) := by decide +kernel
theorem dX4_span_14 : decode cX4_span 14 = .ok (.istore_n 2, 1) := by decide +kernel
theorem dX4_span_15 : decode cX4_span 15 = .ok (.iinc 3 1, 3) := by decide +kernel
theorem dX4_span_18 : decode cX4_span 18 = .ok (.goto (-14), 3) := by decide +kernel
theorem dX4_span_21 : decode cX4_span 21 = .ok (.iload_n 2, 1) := by decide +kernel
theorem dX4_span_22 : decode cX4_span 22 = .ok (.ireturn, 1) := by decide +kernel
theorem dX4_spreads_0 : decode cX4_spreads 0 = .ok (.iconst 0, 1) := by decide +kernel
theorem dX4_spreads_1 : decode cX4_spreads 1 = .ok (.istore_n 3, 1) := by decide +kernel
theorem dX4_spreads_2 : decode cX4_spreads 2 = .ok (.iload_n 3, 1) := by decide +kernel
theorem dX4_spreads_3 : decode cX4_spreads 3 = .ok (.aload_n 0, 1) := by decide +kernel
theorem dX4_spreads_4 : decode cX4_spreads 4 = .ok (.getfield 72, 3) := by decide +kernel
theorem dX4_spreads_7 : decode cX4_spreads 7 = .ok (.if_icmp .ge 79, 3) := by decide +kernel
theorem dX4_spreads_10 : decode cX4_spreads 10 = .ok (.aload_n 0, 1) := by decide +kernel
theorem dX4_spreads_11 : decode cX4_spreads 11 = .ok (.getfield 59, 3) := by decide +kernel
theorem dX4_spreads_14 : decode cX4_spreads 14 = .ok (.iload_n 3, 1) := by decide +kernel
theorem dX4_spreads_15 : decode cX4_spreads 15 = .ok (.iload_n 3, 1) := by decide +kernel
theorem dX4_spreads_16 : decode cX4_spreads 16 = .ok (.iload_n 1, 1) := by decide +kernel
theorem dX4_spreads_17 : decode cX4_spreads 17 = .ok (.if_icmp .ne 7, 3) := by decide +kernel
theorem dX4_spreads_20 : decode cX4_spreads 20 = .ok (.iload_n 2, 1) := by decide +kernel
theorem dX4_spreads_21 : decode cX4_spreads 21 = .ok (.goto 4, 3) := by decide +kernel
theorem dX4_spreads_24 : decode cX4_spreads 24 = .ok (.iconst 0, 1) := by decide +kernel
theorem dX4_spreads_25 : decode cX4_spreads 25 = .ok (.iastore, 1) := by decide +kernel
theorem dX4_spreads_26 : decode cX4_spreads 26 = .ok (.iconst 0, 1) := by decide +kernel
theorem dX4_spreads_27 : decode cX4_spreads 27 = .ok (.istore 4, 2) := by decide +kernel
theorem dX4_spreads_29 : decode cX4_spreads 29 = .ok (.iload 4, 2) := by decide +kernel
theorem dX4_spreads_31 : decode cX4_spreads 31 = .ok (.aload_n 0, 1) := by decide +kernel
theorem dX4_spreads_32 : decode cX4_spreads 32 = .ok (.getfield 7, 3) := by decide +kernel
theorem dX4_spreads_35 : decode cX4_spreads 35 = .ok (.iload_n 3, 1) := by decide +kernel
theorem dX4_spreads_36 : decode cX4_spreads 36 = .ok (.iaload, 1) := by decide +kernel
theorem dX4_spreads_37 : decode cX4_spreads 37 = .ok (.if_icmp .ge 43, 3) := by decide +kernel
theorem dX4_spreads_40 : decode cX4_spreads 40 = .ok (.aload_n 0, 1) := by decide +kernel
theorem dX4_spreads_41 : decode cX4_spreads 41 = .ok (.getfield 59, 3) := by decide +kernel
theorem dX4_spreads_44 : decode cX4_spreads 44 = .ok (.iload_n 3, 1) := by decide +kernel
theorem dX4_spreads_45 : decode cX4_spreads 45 = .ok (.dup2, 1) := by decide +kernel
theorem dX4_spreads_46 : decode cX4_spreads 46 = .ok (.iaload, 1) := by decide +kernel
theorem dX4_spreads_47 : decode cX4_spreads 47 = .ok (.aload_n 0, 1) := by decide +kernel
theorem dX4_spreads_48 : decode cX4_spreads 48 = .ok (.getfield 13, 3) := by decide +kernel
theorem dX4_spreads_51 : decode cX4_spreads 51 = .ok (.iconst 3, 1) := by decide +kernel
theorem dX4_spreads_52 : decode cX4_spreads 52 = .ok (.iload_n 3, 1) := by decide +kernel
theorem dX4_spreads_53 : decode cX4_spreads 53 = .ok (.imul, 1) := by decide +kernel
theorem dX4_spreads_54 : decode cX4_spreads 54 = .ok (.iload 4, 2) := by decide +kernel
theorem dX4_spreads_56 : decode cX4_spreads 56 = .ok (.iadd, 1) := by decide +kernel
theorem dX4_spreads_57 : decode cX4_spreads 57 = .ok (.iaload, 1) := by decide +kernel
theorem dX4_spreads_58 : decode cX4_spreads 58 = .ok (.aload_n 0, 1) := by decide +kernel
theorem dX4_spreads_59 : decode cX4_spreads 59 = .ok (.getfield 16, 3) := by decide +kernel
theorem dX4_spreads_62 : decode cX4_spreads 62 = .ok (.iconst 3, 1) := by decide +kernel
theorem dX4_spreads_63 : decode cX4_spreads 63 = .ok (.iload_n 3, 1) := by decide +kernel
theorem dX4_spreads_64 : decode cX4_spreads 64 = .ok (.imul, 1) := by decide +kernel
theorem dX4_spreads_65 : decode cX4_spreads 65 = .ok (.iload 4, 2) := by decide +kernel
theorem dX4_spreads_67 : decode cX4_spreads 67 = .ok (.iadd, 1) := by decide +kernel
theorem dX4_spreads_68 : decode cX4_spreads 68 = .ok (.iaload, 1) := by decide +kernel
theorem dX4_spreads_69 : decode cX4_spreads 69 = .ok (.invokestatic 86, 3) := by decide +kernel
theorem dX4_spreads_72 : decode cX4_spreads 72 = .ok (.ior, 1) := by decide +kernel
theorem dX4_spreads_73 : decode cX4_spreads 73 = .ok (.iastore, 1) := by decide +kernel
theorem dX4_spreads_74 : decode cX4_spreads 74 = .ok (.iinc 4 1, 3) := by decide +kernel
theorem dX4_spreads_77 : decode cX4_spreads 77 = .ok (.goto (-48), 3) := by decide +kernel
theorem dX4_spreads_80 : decode cX4_spreads 80 = .ok (.iinc 3 1, 3) := by decide +kernel
theorem dX4_spreads_83 : decode cX4_spreads 83 = .ok (.goto (-81), 3) := by decide +kernel
theorem dX4_spreads_86 : decode cX4_spreads 86 = .ok (.iconst 0, 1) := by decide +kernel
theorem dX4_spreads_87 : decode cX4_spreads 87 = .ok (.istore_n 3, 1) := by decide +kernel
theorem dX4_spreads_88 : decode cX4_spreads 88 = .ok (.iload_n 3, 1) := by decide +kernel
theorem dX4_spreads_89 : decode cX4_spreads 89 = .ok (.bipush 8, 2) := by decide +kernel
theorem dX4_spreads_91 : decode cX4_spreads 91 = .ok (.if_icmp .ge 75, 3) := by decide +kernel
theorem dX4_spreads_94 : decode cX4_spreads 94 = .ok (.iconst 0, 1) := by decide +kernel
theorem dX4_spreads_95 : decode cX4_spreads 95 = .ok (.istore 4, 2) := by decide +kernel
theorem dX4_spreads_97 : decode cX4_spreads 97 = .ok (.iload 4, 2) := by decide +kernel
theorem dX4_spreads_99 : decode cX4_spreads 99 = .ok (.aload_n 0, 1) := by decide +kernel
theorem dX4_spreads_100 : decode cX4_spreads 100 = .ok (.getfield 72, 3) := by decide +kernel
theorem dX4_spreads_103 : decode cX4_spreads 103 = .ok (.if_icmp .ge 57, 3) := by decide +kernel
theorem dX4_spreads_106 : decode cX4_spreads 106 = .ok (.iconst 0, 1) := by decide +kernel
theorem dX4_spreads_107 : decode cX4_spreads 107 = .ok (.istore 5, 2) := by decide +kernel
theorem dX4_spreads_109 : decode cX4_spreads 109 = .ok (.iload 5, 2) := by decide +kernel
theorem dX4_spreads_111 : decode cX4_spreads 111 = .ok (.aload_n 0, 1) := by decide +kernel
theorem dX4_spreads_112 : decode cX4_spreads 112 = .ok (.getfield 19, 3) := by decide +kernel
theorem dX4_spreads_115 : decode cX4_spreads 115 = .ok (.iload 4, 2) := by decide +kernel
theorem dX4_spreads_117 : decode cX4_spreads 117 = .ok (.iaload, 1) := by decide +kernel
theorem dX4_spreads_118 : decode cX4_spreads 118 = .ok (.if_icmp .ge 36, 3) := by decide +kernel
theorem dX4_spreads_121 : decode cX4_spreads 121 = .ok (.aload_n 0, 1) := by decide +kernel
theorem dX4_spreads_122 : decode cX4_spreads 122 = .ok (.getfield 59, 3) := by decide +kernel
theorem dX4_spreads_125 : decode cX4_spreads 125 = .ok (.iload 4, 2) := by decide +kernel
theorem dX4_spreads_127 : decode cX4_spreads 127 = .ok (.dup2, 1) := by decide +kernel
theorem dX4_spreads_128 : decode cX4_spreads 128 = .ok (.iaload, 1) := by decide +kernel
theorem dX4_spreads_129 : decode cX4_spreads 129 = .ok (.aload_n 0, 1) := by decide +kernel
theorem dX4_spreads_130 : decode cX4_spreads 130 = .ok (.getfield 59, 3) := by decide +kernel
theorem dX4_spreads_133 : decode cX4_spreads 133 = .ok (.aload_n 0, 1) := by decide +kernel
theorem dX4_spreads_134 : decode cX4_spreads 134 = .ok (.getfield 22, 3) := by decide +kernel
theorem dX4_spreads_137 : decode cX4_spreads 137 = .ok (.iconst 2, 1) := by decide +kernel
theorem dX4_spreads_138 : decode cX4_spreads 138 = .ok (.iload 4, 2) := by decide +kernel
theorem dX4_spreads_140 : decode cX4_spreads 140 = .ok (.imul, 1) := by decide +kernel
theorem dX4_spreads_141 : decode cX4_spreads 141 = .ok (.iload 5, 2) := by decide +kernel
theorem dX4_spreads_143 : decode cX4_spreads 143 = .ok (.iadd, 1) := by decide +kernel
theorem dX4_spreads_144 : decode cX4_spreads 144 = .ok (.iaload, 1) := by decide +kernel
theorem dX4_spreads_145 : decode cX4_spreads 145 = .ok (.iaload, 1) := by decide +kernel
theorem dX4_spreads_146 : decode cX4_spreads 146 = .ok (.ior, 1) := by decide +kernel
theorem dX4_spreads_147 : decode cX4_spreads 147 = .ok (.iastore, 1) := by decide +kernel
theorem dX4_spreads_148 : decode cX4_spreads 148 = .ok (.iinc 5 1, 3) := by decide +kernel
theorem dX4_spreads_151 : decode cX4_spreads 151 = .ok (.goto (-42), 3) := by decide +kernel
theorem dX4_spreads_154 : decode cX4_spreads 154 = .ok (.iinc 4 1, 3) := by decide +kernel
theorem dX4_spreads_157 : decode cX4_spreads 157 = .ok (.goto (-60), 3) := by decide +kernel
theorem dX4_spreads_160 : decode cX4_spreads 160 = .ok (.iinc 3 1, 3) := by decide +kernel
theorem dX4_spreads_163 : decode cX4_spreads 163 = .ok (.goto (-75), 3) := by decide +kernel
theorem dX4_spreads_166 : decode cX4_spreads 166 = .ok (.return_, 1) := by decide +kernel
theorem dX4_dependents_0 : decode cX4_dependents 0 = .ok (.iconst 1, 1) := by decide +kernel
theorem dX4_dependents_1 : decode cX4_dependents 1 = .ok (.iload_n 1, 1) := by decide +kernel
theorem dX4_dependents_2 : decode cX4_dependents 2 = .ok (.ishl, 1) := by decide +kernel
theorem dX4_dependents_3 : decode cX4_dependents 3 = .ok (.istore_n 2, 1) := by decide +kernel
theorem dX4_dependents_4 : decode cX4_dependents 4 = .ok (.iconst 0, 1) := by decide +kernel
theorem dX4_dependents_5 : decode cX4_dependents 5 = .ok (.istore_n 3, 1) := by decide +kernel
theorem dX4_dependents_6 : decode cX4_dependents 6 = .ok (.iload_n 3, 1) := by decide +kernel
theorem dX4_dependents_7 : decode cX4_dependents 7 = .ok (.bipush 8, 2) := by decide +kernel
theorem dX4_dependents_9 : decode cX4_dependents 9 = .ok (.if_icmp .ge 79, 3) := by decide +kernel
theorem dX4_dependents_12 : decode cX4_dependents 12 = .ok (.iconst 0, 1) := by decide +kernel
theorem dX4_dependents_13 : decode cX4_dependents 13 = .ok (.istore 4, 2) := by decide +kernel
theorem dX4_dependents_15 : decode cX4_dependents 15 = .ok (.iload 4, 2) := by decide +kernel
theorem dX4_dependents_17 : decode cX4_dependents 17 = .ok (.aload_n 0, 1) := by decide +kernel
theorem dX4_dependents_18 : decode cX4_dependents 18 = .ok (.getfield 72, 3) := by decide +kernel
theorem dX4_dependents_21 : decode cX4_dependents 21 = .ok (.if_icmp .ge 61, 3) := by decide +kernel
theorem dX4_dependents_24 : decode cX4_dependents 24 = .ok (.iconst 0, 1) := by decide +kernel
theorem dX4_dependents_25 : decode cX4_dependents 25 = .ok (.istore 5, 2) := by decide +kernel
theorem dX4_dependents_27 : decode cX4_dependents 27 = .ok (.iload 5, 2) := by decide +kernel
theorem dX4_dependents_29 : decode cX4_dependents 29 = .ok (.aload_n 0, 1) := by decide +kernel
theorem dX4_dependents_30 : decode cX4_dependents 30 = .ok (.getfield 19, 3) := by decide +kernel
theorem dX4_dependents_33 : decode cX4_dependents 33 = .ok (.iload 4, 2) := by decide +kernel
theorem dX4_dependents_35 : decode cX4_dependents 35 = .ok (.iaload, 1) := by decide +kernel
theorem dX4_dependents_36 : decode cX4_dependents 36 = .ok (.if_icmp .ge 40, 3) := by decide +kernel
theorem dX4_dependents_39 : decode cX4_dependents 39 = .ok (.iload_n 2, 1) := by decide +kernel
theorem dX4_dependents_40 : decode cX4_dependents 40 = .ok (.iload_n 2, 1) := by decide +kernel
theorem dX4_dependents_41 : decode cX4_dependents 41 = .ok (.aload_n 0, 1) := by decide +kernel
theorem dX4_dependents_42 : decode cX4_dependents 42 = .ok (.getfield 22, 3) := by decide +kernel
theorem dX4_dependents_45 : decode cX4_dependents 45 = .ok (.iconst 2, 1) := by decide +kernel
theorem dX4_dependents_46 : decode cX4_dependents 46 = .ok (.iload 4, 2) := by decide +kernel
theorem dX4_dependents_48 : decode cX4_dependents 48 = .ok (.imul, 1) := by decide +kernel
theorem dX4_dependents_49 : decode cX4_dependents 49 = .ok (.iload 5, 2) := by decide +kernel
theorem dX4_dependents_51 : decode cX4_dependents 51 = .ok (.iadd, 1) := by decide +kernel
theorem dX4_dependents_52 : decode cX4_dependents 52 = .ok (.iaload, 1) := by decide +kernel
theorem dX4_dependents_53 : decode cX4_dependents 53 = .ok (.ishr, 1) := by decide +kernel
theorem dX4_dependents_54 : decode cX4_dependents 54 = .ok (.iconst 1, 1) := by decide +kernel
theorem dX4_dependents_55 : decode cX4_dependents 55 = .ok (.iand, 1) := by decide +kernel
theorem dX4_dependents_56 : decode cX4_dependents 56 = .ok (.iconst 1, 1) := by decide +kernel
theorem dX4_dependents_57 : decode cX4_dependents 57 = .ok (.if_icmp .ne 10, 3) := by decide +kernel
theorem dX4_dependents_60 : decode cX4_dependents 60 = .ok (.iconst 1, 1) := by decide +kernel
theorem dX4_dependents_61 : decode cX4_dependents 61 = .ok (.iload 4, 2) := by decide +kernel
theorem dX4_dependents_63 : decode cX4_dependents 63 = .ok (.ishl, 1) := by decide +kernel
theorem dX4_dependents_64 : decode cX4_dependents 64 = .ok (.goto 4, 3) := by decide +kernel
theorem dX4_dependents_67 : decode cX4_dependents 67 = .ok (.iconst 0, 1) := by decide +kernel
theorem dX4_dependents_68 : decode cX4_dependents 68 = .ok (.ior, 1) := by decide +kernel
theorem dX4_dependents_69 : decode cX4_dependents 69 = .ok (.istore_n 2, 1) := by decide +kernel
theorem dX4_dependents_70 : decode cX4_dependents 70 = .ok (.iinc 5 1, 3) := by decide +kernel
theorem dX4_dependents_73 : decode cX4_dependents 73 = .ok (.goto (-46), 3) := by decide +kernel
theorem dX4_dependents_76 : decode cX4_dependents 76 = .ok (.iinc 4 1, 3) := by decide +kernel
theorem dX4_dependents_79 : decode cX4_dependents 79 = .ok (.goto (-64), 3) := by decide +kernel
theorem dX4_dependents_82 : decode cX4_dependents 82 = .ok (.iinc 3 1, 3) := by decide +kernel
theorem dX4_dependents_85 : decode cX4_dependents 85 = .ok (.goto (-79), 3) := by decide +kernel
theorem dX4_dependents_88 : decode cX4_dependents 88 = .ok (.iload_n 2, 1) := by decide +kernel
theorem dX4_dependents_89 : decode cX4_dependents 89 = .ok (.ireturn, 1) := by decide +kernel
theorem dX4_size_0 : decode cX4_size 0 = .ok (.iconst 0, 1) := by decide +kernel
theorem dX4_size_1 : decode cX4_size 1 = .ok (.istore_n 1, 1) := by decide +kernel
theorem dX4_size_2 : decode cX4_size 2 = .ok (.iconst 0, 1) := by decide +kernel
theorem dX4_size_3 : decode cX4_size 3 = .ok (.istore_n 2, 1) := by decide +kernel
theorem dX4_size_4 : decode cX4_size 4 = .ok (.iload_n 2, 1) := by decide +kernel
theorem dX4_size_5 : decode cX4_size 5 = .ok (.bipush 32, 2) := by decide +kernel
theorem dX4_size_7 : decode cX4_size 7 = .ok (.if_icmp .ge 17, 3) := by decide +kernel
theorem dX4_size_10 : decode cX4_size 10 = .ok (.iload_n 1, 1) := by decide +kernel
theorem dX4_size_11 : decode cX4_size 11 = .ok (.iload_n 0, 1) := by decide +kernel
theorem dX4_size_12 : decode cX4_size 12 = .ok (.iload_n 2, 1) := by decide +kernel
theorem dX4_size_13 : decode cX4_size 13 = .ok (.ishr, 1) := by decide +kernel
theorem dX4_size_14 : decode cX4_size 14 = .ok (.iconst 1, 1) := by decide +kernel
theorem dX4_size_15 : decode cX4_size 15 = .ok (.iand, 1) := by decide +kernel
theorem dX4_size_16 : decode cX4_size 16 = .ok (.iadd, 1) := by decide +kernel
theorem dX4_size_17 : decode cX4_size 17 = .ok (.istore_n 1, 1) := by decide +kernel
theorem dX4_size_18 : decode cX4_size 18 = .ok (.iinc 2 1, 3) := by decide +kernel
theorem dX4_size_21 : decode cX4_size 21 = .ok (.goto (-17), 3) := by decide +kernel
theorem dX4_size_24 : decode cX4_size 24 = .ok (.iload_n 1, 1) := by decide +kernel
theorem dX4_size_25 : decode cX4_size 25 = .ok (.ireturn, 1) := by decide +kernel
theorem dX4_addObject_0 : decode cX4_addObject 0 = .ok (.aload_n 0, 1) := by decide +kernel
theorem dX4_addObject_1 : decode cX4_addObject 1 = .ok (.iconst 0, 1) := by decide +kernel
theorem dX4_addObject_2 : decode cX4_addObject 2 = .ok (.putfield 68, 3) := by decide +kernel
theorem dX4_addObject_5 : decode cX4_addObject 5 = .ok (.aload_n 0, 1) := by decide +kernel
theorem dX4_addObject_6 : decode cX4_addObject 6 = .ok (.getfield 72, 3) := by decide +kernel
theorem dX4_addObject_9 : decode cX4_addObject 9 = .ok (.bipush 8, 2) := by decide +kernel
theorem dX4_addObject_11 : decode cX4_addObject 11 = .ok (.if_icmp .ne 9, 3) := by decide +kernel
theorem dX4_addObject_14 : decode cX4_addObject 14 = .ok (.aload_n 0, 1) := by decide +kernel
theorem dX4_addObject_15 : decode cX4_addObject 15 = .ok (.iconst 1, 1) := by decide +kernel
theorem dX4_addObject_16 : decode cX4_addObject 16 = .ok (.invokevirtual 90, 3) := by decide +kernel
theorem dX4_addObject_19 : decode cX4_addObject 19 = .ok (.ireturn, 1) := by decide +kernel
theorem dX4_addObject_20 : decode cX4_addObject 20 = .ok (.aload_n 0, 1) := by decide +kernel
theorem dX4_addObject_21 : decode cX4_addObject 21 = .ok (.dup, 1) := by decide +kernel
theorem dX4_addObject_22 : decode cX4_addObject 22 = .ok (.getfield 72, 3) := by decide +kernel
theorem dX4_addObject_25 : decode cX4_addObject 25 = .ok (.iconst 1, 1) := by decide +kernel
theorem dX4_addObject_26 : decode cX4_addObject 26 = .ok (.iadd, 1) := by decide +kernel
theorem dX4_addObject_27 : decode cX4_addObject 27 = .ok (.putfield 72, 3) := by decide +kernel
theorem dX4_addObject_30 : decode cX4_addObject 30 = .ok (.aload_n 0, 1) := by decide +kernel
theorem dX4_addObject_31 : decode cX4_addObject 31 = .ok (.getfield 72, 3) := by decide +kernel
theorem dX4_addObject_34 : decode cX4_addObject 34 = .ok (.iconst 1, 1) := by decide +kernel
theorem dX4_addObject_35 : decode cX4_addObject 35 = .ok (.isub, 1) := by decide +kernel
theorem dX4_addObject_36 : decode cX4_addObject 36 = .ok (.ireturn, 1) := by decide +kernel
theorem dX4_addRange_0 : decode cX4_addRange 0 = .ok (.aload_n 0, 1) := by decide +kernel
theorem dX4_addRange_1 : decode cX4_addRange 1 = .ok (.iconst 0, 1) := by decide +kernel
theorem dX4_addRange_2 : decode cX4_addRange 2 = .ok (.putfield 68, 3) := by decide +kernel
theorem dX4_addRange_5 : decode cX4_addRange 5 = .ok (.aload_n 0, 1) := by decide +kernel
theorem dX4_addRange_6 : decode cX4_addRange 6 = .ok (.iload_n 1, 1) := by decide +kernel
theorem dX4_addRange_7 : decode cX4_addRange 7 = .ok (.invokevirtual 93, 3) := by decide +kernel
theorem dX4_addRange_10 : decode cX4_addRange 10 = .ok (.ifCond .ne 9, 3) := by decide +kernel
theorem dX4_addRange_13 : decode cX4_addRange 13 = .ok (.aload_n 0, 1) := by decide +kernel
theorem dX4_addRange_14 : decode cX4_addRange 14 = .ok (.iconst 1, 1) := by decide +kernel
theorem dX4_addRange_15 : decode cX4_addRange 15 = .ok (.invokevirtual 90, 3) := by decide +kernel
theorem dX4_addRange_18 : decode cX4_addRange 18 = .ok (.ireturn, 1) := by decide +kernel
theorem dX4_addRange_19 : decode cX4_addRange 19 = .ok (.iload_n 2, 1) := by decide +kernel
theorem dX4_addRange_20 : decode cX4_addRange 20 = .ok (.iconst 0, 1) := by decide +kernel
theorem dX4_addRange_21 : decode cX4_addRange 21 = .ok (.bipush 31, 2) := by decide +kernel
theorem dX4_addRange_23 : decode cX4_addRange 23 = .ok (.invokestatic 75, 3) := by decide +kernel
theorem dX4_addRange_26 : decode cX4_addRange 26 = .ok (.ifCond .eq 13, 3) := by decide +kernel
theorem dX4_addRange_29 : decode cX4_addRange 29 = .ok (.iload_n 3, 1) := by decide +kernel
theorem dX4_addRange_30 : decode cX4_addRange 30 = .ok (.iload_n 2, 1) := by decide +kernel
theorem dX4_addRange_31 : decode cX4_addRange 31 = .ok (.bipush 31, 2) := by decide +kernel
theorem dX4_addRange_33 : decode cX4_addRange 33 = .ok (.invokestatic 75, 3) := by decide +kernel
theorem dX4_addRange_36 : decode cX4_addRange 36 = .ok (.ifCond .ne 9, 3) := by decide +kernel
theorem dX4_addRange_39 : decode cX4_addRange 39 = .ok (.aload_n 0, 1) := by decide +kernel
theorem dX4_addRange_40 : decode cX4_addRange 40 = .ok (.iconst 2, 1) := by decide +kernel
theorem dX4_addRange_41 : decode cX4_addRange 41 = .ok (.invokevirtual 90, 3) := by decide +kernel
theorem dX4_addRange_44 : decode cX4_addRange 44 = .ok (.ireturn, 1) := by decide +kernel
theorem dX4_addRange_45 : decode cX4_addRange 45 = .ok (.aload_n 0, 1) := by decide +kernel
theorem dX4_addRange_46 : decode cX4_addRange 46 = .ok (.getfield 7, 3) := by decide +kernel
theorem dX4_addRange_49 : decode cX4_addRange 49 = .ok (.iload_n 1, 1) := by decide +kernel
theorem dX4_addRange_50 : decode cX4_addRange 50 = .ok (.iaload, 1) := by decide +kernel
theorem dX4_addRange_51 : decode cX4_addRange 51 = .ok (.iconst 3, 1) := by decide +kernel
theorem dX4_addRange_52 : decode cX4_addRange 52 = .ok (.if_icmp .ne 9, 3) := by decide +kernel
theorem dX4_addRange_55 : decode cX4_addRange 55 = .ok (.aload_n 0, 1) := by decide +kernel
theorem dX4_addRange_56 : decode cX4_addRange 56 = .ok (.iconst 3, 1) := by decide +kernel
theorem dX4_addRange_57 : decode cX4_addRange 57 = .ok (.invokevirtual 90, 3) := by decide +kernel
theorem dX4_addRange_60 : decode cX4_addRange 60 = .ok (.ireturn, 1) := by decide +kernel
theorem dX4_addRange_61 : decode cX4_addRange 61 = .ok (.aload_n 0, 1) := by decide +kernel
theorem dX4_addRange_62 : decode cX4_addRange 62 = .ok (.getfield 13, 3) := by decide +kernel
theorem dX4_addRange_65 : decode cX4_addRange 65 = .ok (.iconst 3, 1) := by decide +kernel
theorem dX4_addRange_66 : decode cX4_addRange 66 = .ok (.iload_n 1, 1) := by decide +kernel
theorem dX4_addRange_67 : decode cX4_addRange 67 = .ok (.imul, 1) := by decide +kernel
theorem dX4_addRange_68 : decode cX4_addRange 68 = .ok (.aload_n 0, 1) := by decide +kernel
theorem dX4_addRange_69 : decode cX4_addRange 69 = .ok (.getfield 7, 3) := by decide +kernel
theorem dX4_addRange_72 : decode cX4_addRange 72 = .ok (.iload_n 1, 1) := by decide +kernel
theorem dX4_addRange_73 : decode cX4_addRange 73 = .ok (.iaload, 1) := by decide +kernel
theorem dX4_addRange_74 : decode cX4_addRange 74 = .ok (.iadd, 1) := by decide +kernel
theorem dX4_addRange_75 : decode cX4_addRange 75 = .ok (.iload_n 2, 1) := by decide +kernel
theorem dX4_addRange_76 : decode cX4_addRange 76 = .ok (.iastore, 1) := by decide +kernel
theorem dX4_addRange_77 : decode cX4_addRange 77 = .ok (.aload_n 0, 1) := by decide +kernel
theorem dX4_addRange_78 : decode cX4_addRange 78 = .ok (.getfield 16, 3) := by decide +kernel
theorem dX4_addRange_81 : decode cX4_addRange 81 = .ok (.iconst 3, 1) := by decide +kernel
theorem dX4_addRange_82 : decode cX4_addRange 82 = .ok (.iload_n 1, 1) := by decide +kernel
theorem dX4_addRange_83 : decode cX4_addRange 83 = .ok (.imul, 1) := by decide +kernel
theorem dX4_addRange_84 : decode cX4_addRange 84 = .ok (.aload_n 0, 1) := by decide +kernel
theorem dX4_addRange_85 : decode cX4_addRange 85 = .ok (.getfield 7, 3) := by decide +kernel
theorem dX4_addRange_88 : decode cX4_addRange 88 = .ok (.iload_n 1, 1) := by decide +kernel
theorem dX4_addRange_89 : decode cX4_addRange 89 = .ok (.iaload, 1) := by decide +kernel
theorem dX4_addRange_90 : decode cX4_addRange 90 = .ok (.iadd, 1) := by decide +kernel
theorem dX4_addRange_91 : decode cX4_addRange 91 = .ok (.iload_n 3, 1) := by decide +kernel
theorem dX4_addRange_92 : decode cX4_addRange 92 = .ok (.iastore, 1) := by decide +kernel
theorem dX4_addRange_93 : decode cX4_addRange 93 = .ok (.aload_n 0, 1) := by decide +kernel
theorem dX4_addRange_94 : decode cX4_addRange 94 = .ok (.getfield 7, 3) := by decide +kernel
theorem dX4_addRange_97 : decode cX4_addRange 97 = .ok (.iload_n 1, 1) := by decide +kernel
theorem dX4_addRange_98 : decode cX4_addRange 98 = .ok (.dup2, 1) := by decide +kernel
theorem dX4_addRange_99 : decode cX4_addRange 99 = .ok (.iaload, 1) := by decide +kernel
theorem dX4_addRange_100 : decode cX4_addRange 100 = .ok (.iconst 1, 1) := by decide +kernel
theorem dX4_addRange_101 : decode cX4_addRange 101 = .ok (.iadd, 1) := by decide +kernel
theorem dX4_addRange_102 : decode cX4_addRange 102 = .ok (.iastore, 1) := by decide +kernel
theorem dX4_addRange_103 : decode cX4_addRange 103 = .ok (.aload_n 0, 1) := by decide +kernel
theorem dX4_addRange_104 : decode cX4_addRange 104 = .ok (.getfield 7, 3) := by decide +kernel
theorem dX4_addRange_107 : decode cX4_addRange 107 = .ok (.iload_n 1, 1) := by decide +kernel
theorem dX4_addRange_108 : decode cX4_addRange 108 = .ok (.iaload, 1) := by decide +kernel
theorem dX4_addRange_109 : decode cX4_addRange 109 = .ok (.ireturn, 1) := by decide +kernel
theorem dX4_removeRange_0 : decode cX4_removeRange 0 = .ok (.aload_n 0, 1) := by decide +kernel
theorem dX4_removeRange_1 : decode cX4_removeRange 1 = .ok (.iconst 0, 1) := by decide +kernel
theorem dX4_removeRange_2 : decode cX4_removeRange 2 = .ok (.putfield 68, 3) := by decide +kernel
theorem dX4_removeRange_5 : decode cX4_removeRange 5 = .ok (.aload_n 0, 1) := by decide +kernel
theorem dX4_removeRange_6 : decode cX4_removeRange 6 = .ok (.iload_n 1, 1) := by decide +kernel
theorem dX4_removeRange_7 : decode cX4_removeRange 7 = .ok (.invokevirtual 93, 3) := by decide +kernel
theorem dX4_removeRange_10 : decode cX4_removeRange 10 = .ok (.ifCond .ne 9, 3) := by decide +kernel
theorem dX4_removeRange_13 : decode cX4_removeRange 13 = .ok (.aload_n 0, 1) := by decide +kernel
theorem dX4_removeRange_14 : decode cX4_removeRange 14 = .ok (.iconst 1, 1) := by decide +kernel
theorem dX4_removeRange_15 : decode cX4_removeRange 15 = .ok (.invokevirtual 90, 3) := by decide +kernel
theorem dX4_removeRange_18 : decode cX4_removeRange 18 = .ok (.ireturn, 1) := by decide +kernel
theorem dX4_removeRange_19 : decode cX4_removeRange 19 = .ok (.aload_n 0, 1) := by decide +kernel
theorem dX4_removeRange_20 : decode cX4_removeRange 20 = .ok (.getfield 7, 3) := by decide +kernel
theorem dX4_removeRange_23 : decode cX4_removeRange 23 = .ok (.iload_n 1, 1) := by decide +kernel
theorem dX4_removeRange_24 : decode cX4_removeRange 24 = .ok (.iaload, 1) := by decide +kernel
theorem dX4_removeRange_25 : decode cX4_removeRange 25 = .ok (.ifCond .ne 9, 3) := by decide +kernel
theorem dX4_removeRange_28 : decode cX4_removeRange 28 = .ok (.aload_n 0, 1) := by decide +kernel
theorem dX4_removeRange_29 : decode cX4_removeRange 29 = .ok (.iconst 2, 1) := by decide +kernel
theorem dX4_removeRange_30 : decode cX4_removeRange 30 = .ok (.invokevirtual 90, 3) := by decide +kernel
theorem dX4_removeRange_33 : decode cX4_removeRange 33 = .ok (.ireturn, 1) := by decide +kernel
theorem dX4_removeRange_34 : decode cX4_removeRange 34 = .ok (.aload_n 0, 1) := by decide +kernel
theorem dX4_removeRange_35 : decode cX4_removeRange 35 = .ok (.getfield 7, 3) := by decide +kernel
theorem dX4_removeRange_38 : decode cX4_removeRange 38 = .ok (.iload_n 1, 1) := by decide +kernel
theorem dX4_removeRange_39 : decode cX4_removeRange 39 = .ok (.dup2, 1) := by decide +kernel
theorem dX4_removeRange_40 : decode cX4_removeRange 40 = .ok (.iaload, 1) := by decide +kernel
theorem dX4_removeRange_41 : decode cX4_removeRange 41 = .ok (.iconst 1, 1) := by decide +kernel
theorem dX4_removeRange_42 : decode cX4_removeRange 42 = .ok (.isub, 1) := by decide +kernel
theorem dX4_removeRange_43 : decode cX4_removeRange 43 = .ok (.iastore, 1) := by decide +kernel
theorem dX4_removeRange_44 : decode cX4_removeRange 44 = .ok (.aload_n 0, 1) := by decide +kernel
theorem dX4_removeRange_45 : decode cX4_removeRange 45 = .ok (.getfield 7, 3) := by decide +kernel
theorem dX4_removeRange_48 : decode cX4_removeRange 48 = .ok (.iload_n 1, 1) := by decide +kernel
theorem dX4_removeRange_49 : decode cX4_removeRange 49 = .ok (.iaload, 1) := by decide +kernel
theorem dX4_removeRange_50 : decode cX4_removeRange 50 = .ok (.ireturn, 1) := by decide +kernel
theorem dX4_memberAt_0 : decode cX4_memberAt 0 = .ok (.iconst 0, 1) := by decide +kernel
theorem dX4_memberAt_1 : decode cX4_memberAt 1 = .ok (.istore_n 3, 1) := by decide +kernel
theorem dX4_memberAt_2 : decode cX4_memberAt 2 = .ok (.iload_n 3, 1) := by decide +kernel
theorem dX4_memberAt_3 : decode cX4_memberAt 3 = .ok (.aload_n 0, 1) := by decide +kernel
theorem dX4_memberAt_4 : decode cX4_memberAt 4 = .ok (.getfield 19, 3) := by decide +kernel
theorem dX4_memberAt_7 : decode cX4_memberAt 7 = .ok (.iload_n 1, 1) := by decide +kernel
theorem dX4_memberAt_8 : decode cX4_memberAt 8 = .ok (.iaload, 1) := by decide +kernel
theorem dX4_memberAt_9 : decode cX4_memberAt 9 = .ok (.if_icmp .ge 25, 3) := by decide +kernel
theorem dX4_memberAt_12 : decode cX4_memberAt 12 = .ok (.aload_n 0, 1) := by decide +kernel
theorem dX4_memberAt_13 : decode cX4_memberAt 13 = .ok (.getfield 22, 3) := by decide +kernel
theorem dX4_memberAt_16 : decode cX4_memberAt 16 = .ok (.iconst 2, 1) := by decide +kernel
theorem dX4_memberAt_17 : decode cX4_memberAt 17 = .ok (.iload_n 1, 1) := by decide +kernel
theorem dX4_memberAt_18 : decode cX4_memberAt 18 = .ok (.imul, 1) := by decide +kernel
theorem dX4_memberAt_19 : decode cX4_memberAt 19 = .ok (.iload_n 3, 1) := by decide +kernel
theorem dX4_memberAt_20 : decode cX4_memberAt 20 = .ok (.iadd, 1) := by decide +kernel
theorem dX4_memberAt_21 : decode cX4_memberAt 21 = .ok (.iaload, 1) := by decide +kernel
theorem dX4_memberAt_22 : decode cX4_memberAt 22 = .ok (.iload_n 2, 1) := by decide +kernel
theorem dX4_memberAt_23 : decode cX4_memberAt 23 = .ok (.if_icmp .ne 5, 3) := by decide +kernel
theorem dX4_memberAt_26 : decode cX4_memberAt 26 = .ok (.iload_n 3, 1) := by decide +kernel
theorem dX4_memberAt_27 : decode cX4_memberAt 27 = .ok (.ireturn, 1) := by decide +kernel
theorem dX4_memberAt_28 : decode cX4_memberAt 28 = .ok (.iinc 3 1, 3) := by decide +kernel
theorem dX4_memberAt_31 : decode cX4_memberAt 31 = .ok (.goto (-29), 3) := by decide +kernel
theorem dX4_memberAt_34 : decode cX4_memberAt 34 = .ok (.iconst (-1), 1) := by decide +kernel
theorem dX4_memberAt_35 : decode cX4_memberAt 35 = .ok (.ireturn, 1) := by decide +kernel
theorem dX4_addMember_0 : decode cX4_addMember 0 = .ok (.aload_n 0, 1) := by decide +kernel
theorem dX4_addMember_1 : decode cX4_addMember 1 = .ok (.iconst 0, 1) := by decide +kernel
theorem dX4_addMember_2 : decode cX4_addMember 2 = .ok (.putfield 68, 3) := by decide +kernel
theorem dX4_addMember_5 : decode cX4_addMember 5 = .ok (.aload_n 0, 1) := by decide +kernel
theorem dX4_addMember_6 : decode cX4_addMember 6 = .ok (.iload_n 1, 1) := by decide +kernel
theorem dX4_addMember_7 : decode cX4_addMember 7 = .ok (.invokevirtual 93, 3) := by decide +kernel
theorem dX4_addMember_10 : decode cX4_addMember 10 = .ok (.ifCond .eq 11, 3) := by decide +kernel
theorem dX4_addMember_13 : decode cX4_addMember 13 = .ok (.aload_n 0, 1) := by decide +kernel
theorem dX4_addMember_14 : decode cX4_addMember 14 = .ok (.iload_n 2, 1) := by decide +kernel
theorem dX4_addMember_15 : decode cX4_addMember 15 = .ok (.invokevirtual 93, 3) := by decide +kernel
theorem dX4_addMember_18 : decode cX4_addMember 18 = .ok (.ifCond .ne 9, 3) := by decide +kernel
theorem dX4_addMember_21 : decode cX4_addMember 21 = .ok (.aload_n 0, 1) := by decide +kernel
theorem dX4_addMember_22 : decode cX4_addMember 22 = .ok (.iconst 1, 1) := by decide +kernel
theorem dX4_addMember_23 : decode cX4_addMember 23 = .ok (.invokevirtual 90, 3) := by decide +kernel
theorem dX4_addMember_26 : decode cX4_addMember 26 = .ok (.ireturn, 1) := by decide +kernel
theorem dX4_addMember_27 : decode cX4_addMember 27 = .ok (.iload_n 1, 1) := by decide +kernel
theorem dX4_addMember_28 : decode cX4_addMember 28 = .ok (.iload_n 2, 1) := by decide +kernel
theorem dX4_addMember_29 : decode cX4_addMember 29 = .ok (.if_icmp .eq 13, 3) := by decide +kernel
theorem dX4_addMember_32 : decode cX4_addMember 32 = .ok (.aload_n 0, 1) := by decide +kernel
theorem dX4_addMember_33 : decode cX4_addMember 33 = .ok (.iload_n 1, 1) := by decide +kernel
theorem dX4_addMember_34 : decode cX4_addMember 34 = .ok (.iload_n 2, 1) := by decide +kernel
theorem dX4_addMember_35 : decode cX4_addMember 35 = .ok (.invokevirtual 97, 3) := by decide +kernel
theorem dX4_addMember_38 : decode cX4_addMember 38 = .ok (.iconst (-1), 1) := by decide +kernel
theorem dX4_addMember_39 : decode cX4_addMember 39 = .ok (.if_icmp .eq 9, 3) := by decide +kernel
theorem dX4_addMember_42 : decode cX4_addMember 42 = .ok (.aload_n 0, 1) := by decide +kernel
theorem dX4_addMember_43 : decode cX4_addMember 43 = .ok (.iconst 2, 1) := by decide +kernel
theorem dX4_addMember_44 : decode cX4_addMember 44 = .ok (.invokevirtual 90, 3) := by decide +kernel
theorem dX4_addMember_47 : decode cX4_addMember 47 = .ok (.ireturn, 1) := by decide +kernel
theorem dX4_addMember_48 : decode cX4_addMember 48 = .ok (.aload_n 0, 1) := by decide +kernel
theorem dX4_addMember_49 : decode cX4_addMember 49 = .ok (.iload_n 1, 1) := by decide +kernel
theorem dX4_addMember_50 : decode cX4_addMember 50 = .ok (.invokevirtual 100, 3) := by decide +kernel
theorem dX4_addMember_53 : decode cX4_addMember 53 = .ok (.iload_n 2, 1) := by decide +kernel
theorem dX4_addMember_54 : decode cX4_addMember 54 = .ok (.ishr, 1) := by decide +kernel
theorem dX4_addMember_55 : decode cX4_addMember 55 = .ok (.iconst 1, 1) := by decide +kernel
theorem dX4_addMember_56 : decode cX4_addMember 56 = .ok (.iand, 1) := by decide +kernel
theorem dX4_addMember_57 : decode cX4_addMember 57 = .ok (.iconst 1, 1) := by decide +kernel
theorem dX4_addMember_58 : decode cX4_addMember 58 = .ok (.if_icmp .ne 9, 3) := by decide +kernel
theorem dX4_addMember_61 : decode cX4_addMember 61 = .ok (.aload_n 0, 1) := by decide +kernel
theorem dX4_addMember_62 : decode cX4_addMember 62 = .ok (.iconst 3, 1) := by decide +kernel
theorem dX4_addMember_63 : decode cX4_addMember 63 = .ok (.invokevirtual 90, 3) := by decide +kernel
theorem dX4_addMember_66 : decode cX4_addMember 66 = .ok (.ireturn, 1) := by decide +kernel
theorem dX4_addMember_67 : decode cX4_addMember 67 = .ok (.aload_n 0, 1) := by decide +kernel
theorem dX4_addMember_68 : decode cX4_addMember 68 = .ok (.getfield 19, 3) := by decide +kernel
theorem dX4_addMember_71 : decode cX4_addMember 71 = .ok (.iload_n 1, 1) := by decide +kernel
theorem dX4_addMember_72 : decode cX4_addMember 72 = .ok (.iaload, 1) := by decide +kernel
theorem dX4_addMember_73 : decode cX4_addMember 73 = .ok (.iconst 2, 1) := by decide +kernel
theorem dX4_addMember_74 : decode cX4_addMember 74 = .ok (.if_icmp .ne 9, 3) := by decide +kernel
theorem dX4_addMember_77 : decode cX4_addMember 77 = .ok (.aload_n 0, 1) := by decide +kernel
theorem dX4_addMember_78 : decode cX4_addMember 78 = .ok (.iconst 4, 1) := by decide +kernel
theorem dX4_addMember_79 : decode cX4_addMember 79 = .ok (.invokevirtual 90, 3) := by decide +kernel
theorem dX4_addMember_82 : decode cX4_addMember 82 = .ok (.ireturn, 1) := by decide +kernel
theorem dX4_addMember_83 : decode cX4_addMember 83 = .ok (.aload_n 0, 1) := by decide +kernel
theorem dX4_addMember_84 : decode cX4_addMember 84 = .ok (.getfield 22, 3) := by decide +kernel
theorem dX4_addMember_87 : decode cX4_addMember 87 = .ok (.iconst 2, 1) := by decide +kernel
theorem dX4_addMember_88 : decode cX4_addMember 88 = .ok (.iload_n 1, 1) := by decide +kernel
theorem dX4_addMember_89 : decode cX4_addMember 89 = .ok (.imul, 1) := by decide +kernel
theorem dX4_addMember_90 : decode cX4_addMember 90 = .ok (.aload_n 0, 1) := by decide +kernel
theorem dX4_addMember_91 : decode cX4_addMember 91 = .ok (.getfield 19, 3) := by decide +kernel
theorem dX4_addMember_94 : decode cX4_addMember 94 = .ok (.iload_n 1, 1) := by decide +kernel
theorem dX4_addMember_95 : decode cX4_addMember 95 = .ok (.iaload, 1) := by decide +kernel
theorem dX4_addMember_96 : decode cX4_addMember 96 = .ok (.iadd, 1) := by decide +kernel
theorem dX4_addMember_97 : decode cX4_addMember 97 = .ok (.iload_n 2, 1) := by decide +kernel
theorem dX4_addMember_98 : decode cX4_addMember 98 = .ok (.iastore, 1) := by decide +kernel
theorem dX4_addMember_99 : decode cX4_addMember 99 = .ok (.aload_n 0, 1) := by decide +kernel
theorem dX4_addMember_100 : decode cX4_addMember 100 = .ok (.getfield 19, 3) := by decide +kernel
theorem dX4_addMember_103 : decode cX4_addMember 103 = .ok (.iload_n 1, 1) := by decide +kernel
theorem dX4_addMember_104 : decode cX4_addMember 104 = .ok (.dup2, 1) := by decide +kernel
theorem dX4_addMember_105 : decode cX4_addMember 105 = .ok (.iaload, 1) := by decide +kernel
theorem dX4_addMember_106 : decode cX4_addMember 106 = .ok (.iconst 1, 1) := by decide +kernel
theorem dX4_addMember_107 : decode cX4_addMember 107 = .ok (.iadd, 1) := by decide +kernel
theorem dX4_addMember_108 : decode cX4_addMember 108 = .ok (.iastore, 1) := by decide +kernel
theorem dX4_addMember_109 : decode cX4_addMember 109 = .ok (.aload_n 0, 1) := by decide +kernel
theorem dX4_addMember_110 : decode cX4_addMember 110 = .ok (.getfield 19, 3) := by decide +kernel
theorem dX4_addMember_113 : decode cX4_addMember 113 = .ok (.iload_n 1, 1) := by decide +kernel
theorem dX4_addMember_114 : decode cX4_addMember 114 = .ok (.iaload, 1) := by decide +kernel
theorem dX4_addMember_115 : decode cX4_addMember 115 = .ok (.ireturn, 1) := by decide +kernel
theorem dX4_removeMember_0 : decode cX4_removeMember 0 = .ok (.aload_n 0, 1) := by decide +kernel
theorem dX4_removeMember_1 : decode cX4_removeMember 1 = .ok (.iconst 0, 1) := by decide +kernel
theorem dX4_removeMember_2 : decode cX4_removeMember 2 = .ok (.putfield 68, 3) := by decide +kernel
theorem dX4_removeMember_5 : decode cX4_removeMember 5 = .ok (.aload_n 0, 1) := by decide +kernel
theorem dX4_removeMember_6 : decode cX4_removeMember 6 = .ok (.iload_n 1, 1) := by decide +kernel
theorem dX4_removeMember_7 : decode cX4_removeMember 7 = .ok (.invokevirtual 93, 3) := by decide +kernel
theorem dX4_removeMember_10 : decode cX4_removeMember 10 = .ok (.ifCond .eq 11, 3) := by decide +kernel
theorem dX4_removeMember_13 : decode cX4_removeMember 13 = .ok (.aload_n 0, 1) := by decide +kernel
theorem dX4_removeMember_14 : decode cX4_removeMember 14 = .ok (.iload_n 2, 1) := by decide +kernel
theorem dX4_removeMember_15 : decode cX4_removeMember 15 = .ok (.invokevirtual 93, 3) := by decide +kernel
theorem dX4_removeMember_18 : decode cX4_removeMember 18 = .ok (.ifCond .ne 9, 3) := by decide +kernel
theorem dX4_removeMember_21 : decode cX4_removeMember 21 = .ok (.aload_n 0, 1) := by decide +kernel
theorem dX4_removeMember_22 : decode cX4_removeMember 22 = .ok (.iconst 1, 1) := by decide +kernel
theorem dX4_removeMember_23 : decode cX4_removeMember 23 = .ok (.invokevirtual 90, 3) := by decide +kernel
theorem dX4_removeMember_26 : decode cX4_removeMember 26 = .ok (.ireturn, 1) := by decide +kernel
theorem dX4_removeMember_27 : decode cX4_removeMember 27 = .ok (.aload_n 0, 1) := by decide +kernel
theorem dX4_removeMember_28 : decode cX4_removeMember 28 = .ok (.iload_n 1, 1) := by decide +kernel
theorem dX4_removeMember_29 : decode cX4_removeMember 29 = .ok (.iload_n 2, 1) := by decide +kernel
theorem dX4_removeMember_30 : decode cX4_removeMember 30 = .ok (.invokevirtual 97, 3) := by decide +kernel
theorem dX4_removeMember_33 : decode cX4_removeMember 33 = .ok (.istore_n 3, 1) := by decide +kernel
theorem dX4_removeMember_34 : decode cX4_removeMember 34 = .ok (.iload_n 3, 1) := by decide +kernel
theorem dX4_removeMember_35 : decode cX4_removeMember 35 = .ok (.iconst (-1), 1) := by decide +kernel
theorem dX4_removeMember_36 : decode cX4_removeMember 36 = .ok (.if_icmp .ne 9, 3) := by decide +kernel
theorem dX4_removeMember_39 : decode cX4_removeMember 39 = .ok (.aload_n 0, 1) := by decide +kernel
theorem dX4_removeMember_40 : decode cX4_removeMember 40 = .ok (.iconst 2, 1) := by decide +kernel
theorem dX4_removeMember_41 : decode cX4_removeMember 41 = .ok (.invokevirtual 90, 3) := by decide +kernel
theorem dX4_removeMember_44 : decode cX4_removeMember 44 = .ok (.ireturn, 1) := by decide +kernel
theorem dX4_removeMember_45 : decode cX4_removeMember 45 = .ok (.iload_n 3, 1) := by decide +kernel
theorem dX4_removeMember_46 : decode cX4_removeMember 46 = .ok (.ifCond .ne 21, 3) := by decide +kernel
theorem dX4_removeMember_49 : decode cX4_removeMember 49 = .ok (.aload_n 0, 1) := by decide +kernel
theorem dX4_removeMember_50 : decode cX4_removeMember 50 = .ok (.getfield 22, 3) := by decide +kernel
theorem dX4_removeMember_53 : decode cX4_removeMember 53 = .ok (.iconst 2, 1) := by decide +kernel
theorem dX4_removeMember_54 : decode cX4_removeMember 54 = .ok (.iload_n 1, 1) := by decide +kernel
theorem dX4_removeMember_55 : decode cX4_removeMember 55 = .ok (.imul, 1) := by decide +kernel
theorem dX4_removeMember_56 : decode cX4_removeMember 56 = .ok (.aload_n 0, 1) := by decide +kernel
theorem dX4_removeMember_57 : decode cX4_removeMember 57 = .ok (.getfield 22, 3) := by decide +kernel
theorem dX4_removeMember_60 : decode cX4_removeMember 60 = .ok (.iconst 2, 1) := by decide +kernel
theorem dX4_removeMember_61 : decode cX4_removeMember 61 = .ok (.iload_n 1, 1) := by decide +kernel
theorem dX4_removeMember_62 : decode cX4_removeMember 62 = .ok (.imul, 1) := by decide +kernel
theorem dX4_removeMember_63 : decode cX4_removeMember 63 = .ok (.iconst 1, 1) := by decide +kernel
theorem dX4_removeMember_64 : decode cX4_removeMember 64 = .ok (.iadd, 1) := by decide +kernel
theorem dX4_removeMember_65 : decode cX4_removeMember 65 = .ok (.iaload, 1) := by decide +kernel
theorem dX4_removeMember_66 : decode cX4_removeMember 66 = .ok (.iastore, 1) := by decide +kernel
theorem dX4_removeMember_67 : decode cX4_removeMember 67 = .ok (.aload_n 0, 1) := by decide +kernel
theorem dX4_removeMember_68 : decode cX4_removeMember 68 = .ok (.getfield 19, 3) := by decide +kernel
theorem dX4_removeMember_71 : decode cX4_removeMember 71 = .ok (.iload_n 1, 1) := by decide +kernel
theorem dX4_removeMember_72 : decode cX4_removeMember 72 = .ok (.dup2, 1) := by decide +kernel
theorem dX4_removeMember_73 : decode cX4_removeMember 73 = .ok (.iaload, 1) := by decide +kernel
theorem dX4_removeMember_74 : decode cX4_removeMember 74 = .ok (.iconst 1, 1) := by decide +kernel
theorem dX4_removeMember_75 : decode cX4_removeMember 75 = .ok (.isub, 1) := by decide +kernel
theorem dX4_removeMember_76 : decode cX4_removeMember 76 = .ok (.iastore, 1) := by decide +kernel
theorem dX4_removeMember_77 : decode cX4_removeMember 77 = .ok (.aload_n 0, 1) := by decide +kernel
theorem dX4_removeMember_78 : decode cX4_removeMember 78 = .ok (.getfield 19, 3) := by decide +kernel
theorem dX4_removeMember_81 : decode cX4_removeMember 81 = .ok (.iload_n 1, 1) := by decide +kernel
theorem dX4_removeMember_82 : decode cX4_removeMember 82 = .ok (.iaload, 1) := by decide +kernel
theorem dX4_removeMember_83 : decode cX4_removeMember 83 = .ok (.ireturn, 1) := by decide +kernel
theorem dX4_values_0 : decode cX4_values 0 = .ok (.aload_n 0, 1) := by decide +kernel
theorem dX4_values_1 : decode cX4_values 1 = .ok (.iconst 0, 1) := by decide +kernel
theorem dX4_values_2 : decode cX4_values 2 = .ok (.putfield 68, 3) := by decide +kernel
theorem dX4_values_5 : decode cX4_values 5 = .ok (.aload_n 0, 1) := by decide +kernel
theorem dX4_values_6 : decode cX4_values 6 = .ok (.iload_n 1, 1) := by decide +kernel
theorem dX4_values_7 : decode cX4_values 7 = .ok (.invokevirtual 93, 3) := by decide +kernel
theorem dX4_values_10 : decode cX4_values 10 = .ok (.ifCond .ne 9, 3) := by decide +kernel
theorem dX4_values_13 : decode cX4_values 13 = .ok (.aload_n 0, 1) := by decide +kernel
theorem dX4_values_14 : decode cX4_values 14 = .ok (.iconst 1, 1) := by decide +kernel
theorem dX4_values_15 : decode cX4_values 15 = .ok (.invokevirtual 90, 3) := by decide +kernel
theorem dX4_values_18 : decode cX4_values 18 = .ok (.ireturn, 1) := by decide +kernel
theorem dX4_values_19 : decode cX4_values 19 = .ok (.aload_n 0, 1) := by decide +kernel
theorem dX4_values_20 : decode cX4_values 20 = .ok (.iconst (-1), 1) := by decide +kernel
theorem dX4_values_21 : decode cX4_values 21 = .ok (.iconst 0, 1) := by decide +kernel
theorem dX4_values_22 : decode cX4_values 22 = .ok (.invokevirtual 103, 3) := by decide +kernel
theorem dX4_values_25 : decode cX4_values 25 = .ok (.aload_n 0, 1) := by decide +kernel
theorem dX4_values_26 : decode cX4_values 26 = .ok (.getfield 59, 3) := by decide +kernel
theorem dX4_values_29 : decode cX4_values 29 = .ok (.iload_n 1, 1) := by decide +kernel
theorem dX4_values_30 : decode cX4_values 30 = .ok (.iaload, 1) := by decide +kernel
theorem dX4_values_31 : decode cX4_values 31 = .ok (.invokestatic 107, 3) := by decide +kernel
theorem dX4_values_34 : decode cX4_values 34 = .ok (.ireturn, 1) := by decide +kernel
theorem dX4_hasValue_0 : decode cX4_hasValue 0 = .ok (.aload_n 0, 1) := by decide +kernel
theorem dX4_hasValue_1 : decode cX4_hasValue 1 = .ok (.aload_n 0, 1) := by decide +kernel
theorem dX4_hasValue_2 : decode cX4_hasValue 2 = .ok (.iload_n 1, 1) := by decide +kernel
theorem dX4_hasValue_3 : decode cX4_hasValue 3 = .ok (.invokevirtual 93, 3) := by decide +kernel
theorem dX4_hasValue_6 : decode cX4_hasValue 6 = .ok (.ifCond .ne 7, 3) := by decide +kernel
theorem dX4_hasValue_9 : decode cX4_hasValue 9 = .ok (.iconst 1, 1) := by decide +kernel
theorem dX4_hasValue_10 : decode cX4_hasValue 10 = .ok (.goto 18, 3) := by decide +kernel
theorem dX4_hasValue_13 : decode cX4_hasValue 13 = .ok (.iload_n 2, 1) := by decide +kernel
theorem dX4_hasValue_14 : decode cX4_hasValue 14 = .ok (.iconst 0, 1) := by decide +kernel
theorem dX4_hasValue_15 : decode cX4_hasValue 15 = .ok (.bipush 31, 2) := by decide +kernel
theorem dX4_hasValue_17 : decode cX4_hasValue 17 = .ok (.invokestatic 75, 3) := by decide +kernel
theorem dX4_hasValue_20 : decode cX4_hasValue 20 = .ok (.ifCond .ne 7, 3) := by decide +kernel
theorem dX4_hasValue_23 : decode cX4_hasValue 23 = .ok (.iconst 2, 1) := by decide +kernel
theorem dX4_hasValue_24 : decode cX4_hasValue 24 = .ok (.goto 4, 3) := by decide +kernel
theorem dX4_hasValue_27 : decode cX4_hasValue 27 = .ok (.iconst 0, 1) := by decide +kernel
theorem dX4_hasValue_28 : decode cX4_hasValue 28 = .ok (.putfield 68, 3) := by decide +kernel
theorem dX4_hasValue_31 : decode cX4_hasValue 31 = .ok (.aload_n 0, 1) := by decide +kernel
theorem dX4_hasValue_32 : decode cX4_hasValue 32 = .ok (.getfield 68, 3) := by decide +kernel
theorem dX4_hasValue_35 : decode cX4_hasValue 35 = .ok (.ifCond .le 5, 3) := by decide +kernel
theorem dX4_hasValue_38 : decode cX4_hasValue 38 = .ok (.iconst 0, 1) := by decide +kernel
theorem dX4_hasValue_39 : decode cX4_hasValue 39 = .ok (.ireturn, 1) := by decide +kernel
theorem dX4_hasValue_40 : decode cX4_hasValue 40 = .ok (.aload_n 0, 1) := by decide +kernel
theorem dX4_hasValue_41 : decode cX4_hasValue 41 = .ok (.iconst (-1), 1) := by decide +kernel
theorem dX4_hasValue_42 : decode cX4_hasValue 42 = .ok (.iconst 0, 1) := by decide +kernel
theorem dX4_hasValue_43 : decode cX4_hasValue 43 = .ok (.invokevirtual 103, 3) := by decide +kernel
theorem dX4_hasValue_46 : decode cX4_hasValue 46 = .ok (.aload_n 0, 1) := by decide +kernel
theorem dX4_hasValue_47 : decode cX4_hasValue 47 = .ok (.getfield 59, 3) := by decide +kernel
theorem dX4_hasValue_50 : decode cX4_hasValue 50 = .ok (.iload_n 1, 1) := by decide +kernel
theorem dX4_hasValue_51 : decode cX4_hasValue 51 = .ok (.iaload, 1) := by decide +kernel
theorem dX4_hasValue_52 : decode cX4_hasValue 52 = .ok (.iload_n 2, 1) := by decide +kernel
theorem dX4_hasValue_53 : decode cX4_hasValue 53 = .ok (.ishr, 1) := by decide +kernel
theorem dX4_hasValue_54 : decode cX4_hasValue 54 = .ok (.iconst 1, 1) := by decide +kernel
theorem dX4_hasValue_55 : decode cX4_hasValue 55 = .ok (.iand, 1) := by decide +kernel
theorem dX4_hasValue_56 : decode cX4_hasValue 56 = .ok (.iconst 1, 1) := by decide +kernel
theorem dX4_hasValue_57 : decode cX4_hasValue 57 = .ok (.if_icmp .ne 7, 3) := by decide +kernel
theorem dX4_hasValue_60 : decode cX4_hasValue 60 = .ok (.iconst 1, 1) := by decide +kernel
theorem dX4_hasValue_61 : decode cX4_hasValue 61 = .ok (.goto 4, 3) := by decide +kernel
theorem dX4_hasValue_64 : decode cX4_hasValue 64 = .ok (.iconst 0, 1) := by decide +kernel
theorem dX4_hasValue_65 : decode cX4_hasValue 65 = .ok (.ireturn, 1) := by decide +kernel
theorem dX4_users_0 : decode cX4_users 0 = .ok (.aload_n 0, 1) := by decide +kernel
theorem dX4_users_1 : decode cX4_users 1 = .ok (.iconst 0, 1) := by decide +kernel
theorem dX4_users_2 : decode cX4_users 2 = .ok (.putfield 68, 3) := by decide +kernel
theorem dX4_users_5 : decode cX4_users 5 = .ok (.aload_n 0, 1) := by decide +kernel
theorem dX4_users_6 : decode cX4_users 6 = .ok (.iload_n 1, 1) := by decide +kernel
theorem dX4_users_7 : decode cX4_users 7 = .ok (.invokevirtual 93, 3) := by decide +kernel
theorem dX4_users_10 : decode cX4_users 10 = .ok (.ifCond .ne 9, 3) := by decide +kernel
theorem dX4_users_13 : decode cX4_users 13 = .ok (.aload_n 0, 1) := by decide +kernel
theorem dX4_users_14 : decode cX4_users 14 = .ok (.iconst 1, 1) := by decide +kernel
theorem dX4_users_15 : decode cX4_users 15 = .ok (.invokevirtual 90, 3) := by decide +kernel
theorem dX4_users_18 : decode cX4_users 18 = .ok (.ireturn, 1) := by decide +kernel
theorem dX4_users_19 : decode cX4_users 19 = .ok (.aload_n 0, 1) := by decide +kernel
theorem dX4_users_20 : decode cX4_users 20 = .ok (.iload_n 1, 1) := by decide +kernel
theorem dX4_users_21 : decode cX4_users 21 = .ok (.invokevirtual 100, 3) := by decide +kernel
theorem dX4_users_24 : decode cX4_users 24 = .ok (.istore_n 2, 1) := by decide +kernel
theorem dX4_users_25 : decode cX4_users 25 = .ok (.iconst 0, 1) := by decide +kernel
theorem dX4_users_26 : decode cX4_users 26 = .ok (.istore_n 3, 1) := by decide +kernel
theorem dX4_users_27 : decode cX4_users 27 = .ok (.iconst 0, 1) := by decide +kernel
theorem dX4_users_28 : decode cX4_users 28 = .ok (.istore 4, 2) := by decide +kernel
theorem dX4_users_30 : decode cX4_users 30 = .ok (.iload 4, 2) := by decide +kernel
theorem dX4_users_32 : decode cX4_users 32 = .ok (.aload_n 0, 1) := by decide +kernel
theorem dX4_users_33 : decode cX4_users 33 = .ok (.getfield 79, 3) := by decide +kernel
theorem dX4_users_36 : decode cX4_users 36 = .ok (.if_icmp .ge 87, 3) := by decide +kernel
theorem dX4_users_39 : decode cX4_users 39 = .ok (.iconst 0, 1) := by decide +kernel
theorem dX4_users_40 : decode cX4_users 40 = .ok (.istore 5, 2) := by decide +kernel
theorem dX4_users_42 : decode cX4_users 42 = .ok (.iconst 0, 1) := by decide +kernel
theorem dX4_users_43 : decode cX4_users 43 = .ok (.istore 6, 2) := by decide +kernel
theorem dX4_users_45 : decode cX4_users 45 = .ok (.iload 6, 2) := by decide +kernel
theorem dX4_users_47 : decode cX4_users 47 = .ok (.iconst 3, 1) := by decide +kernel
theorem dX4_users_48 : decode cX4_users 48 = .ok (.if_icmp .ge 56, 3) := by decide +kernel
theorem dX4_users_51 : decode cX4_users 51 = .ok (.aload_n 0, 1) := by decide +kernel
theorem dX4_users_52 : decode cX4_users 52 = .ok (.getfield 38, 3) := by decide +kernel
theorem dX4_users_55 : decode cX4_users 55 = .ok (.iconst 3, 1) := by decide +kernel
theorem dX4_users_56 : decode cX4_users 56 = .ok (.aload_n 0, 1) := by decide +kernel
theorem dX4_users_57 : decode cX4_users 57 = .ok (.getfield 25, 3) := by decide +kernel
theorem dX4_users_60 : decode cX4_users 60 = .ok (.iload 4, 2) := by decide +kernel
theorem dX4_users_62 : decode cX4_users 62 = .ok (.iaload, 1) := by decide +kernel
theorem dX4_users_63 : decode cX4_users 63 = .ok (.imul, 1) := by decide +kernel
theorem dX4_users_64 : decode cX4_users 64 = .ok (.iload 6, 2) := by decide +kernel
theorem dX4_users_66 : decode cX4_users 66 = .ok (.iadd, 1) := by decide +kernel
theorem dX4_users_67 : decode cX4_users 67 = .ok (.iaload, 1) := by decide +kernel
theorem dX4_users_68 : decode cX4_users 68 = .ok (.istore 7, 2) := by decide +kernel
theorem dX4_users_70 : decode cX4_users 70 = .ok (.iload 5, 2) := by decide +kernel
theorem dX4_users_72 : decode cX4_users 72 = .ok (.ifCond .ne 19, 3) := by decide +kernel
theorem dX4_users_75 : decode cX4_users 75 = .ok (.iload 7, 2) := by decide +kernel
theorem dX4_users_77 : decode cX4_users 77 = .ok (.iconst (-1), 1) := by decide +kernel
theorem dX4_users_78 : decode cX4_users 78 = .ok (.if_icmp .eq 17, 3) := by decide +kernel
theorem dX4_users_81 : decode cX4_users 81 = .ok (.iload_n 2, 1) := by decide +kernel
theorem dX4_users_82 : decode cX4_users 82 = .ok (.iload 7, 2) := by decide +kernel
theorem dX4_users_84 : decode cX4_users 84 = .ok (.ishr, 1) := by decide +kernel
theorem dX4_users_85 : decode cX4_users 85 = .ok (.iconst 1, 1) := by decide +kernel
theorem dX4_users_86 : decode cX4_users 86 = .ok (.iand, 1) := by decide +kernel
theorem dX4_users_87 : decode cX4_users 87 = .ok (.iconst 1, 1) := by decide +kernel
theorem dX4_users_88 : decode cX4_users 88 = .ok (.if_icmp .ne 7, 3) := by decide +kernel
theorem dX4_users_91 : decode cX4_users 91 = .ok (.iconst 1, 1) := by decide +kernel
theorem dX4_users_92 : decode cX4_users 92 = .ok (.goto 4, 3) := by decide +kernel
theorem dX4_users_95 : decode cX4_users 95 = .ok (.iconst 0, 1) := by decide +kernel
theorem dX4_users_96 : decode cX4_users 96 = .ok (.istore 5, 2) := by decide +kernel
theorem dX4_users_98 : decode cX4_users 98 = .ok (.iinc 6 1, 3) := by decide +kernel
theorem dX4_users_101 : decode cX4_users 101 = .ok (.goto (-56), 3) := by decide +kernel
theorem dX4_users_104 : decode cX4_users 104 = .ok (.iload_n 3, 1) := by decide +kernel
theorem dX4_users_105 : decode cX4_users 105 = .ok (.iload 5, 2) := by decide +kernel
theorem dX4_users_107 : decode cX4_users 107 = .ok (.ifCond .eq 7, 3) := by decide +kernel
theorem dX4_users_110 : decode cX4_users 110 = .ok (.iconst 1, 1) := by decide +kernel
theorem dX4_users_111 : decode cX4_users 111 = .ok (.goto 4, 3) := by decide +kernel
theorem dX4_users_114 : decode cX4_users 114 = .ok (.iconst 0, 1) := by decide +kernel
theorem dX4_users_115 : decode cX4_users 115 = .ok (.iadd, 1) := by decide +kernel
theorem dX4_users_116 : decode cX4_users 116 = .ok (.istore_n 3, 1) := by decide +kernel
theorem dX4_users_117 : decode cX4_users 117 = .ok (.iinc 4 1, 3) := by decide +kernel
theorem dX4_users_120 : decode cX4_users 120 = .ok (.goto (-90), 3) := by decide +kernel
theorem dX4_users_123 : decode cX4_users 123 = .ok (.iload_n 3, 1) := by decide +kernel
theorem dX4_users_124 : decode cX4_users 124 = .ok (.ireturn, 1) := by decide +kernel
theorem dX4_isOn_0 : decode cX4_isOn 0 = .ok (.aload_n 0, 1) := by decide +kernel
theorem dX4_isOn_1 : decode cX4_isOn 1 = .ok (.getfield 44, 3) := by decide +kernel
theorem dX4_isOn_4 : decode cX4_isOn 4 = .ok (.iload_n 1, 1) := by decide +kernel
theorem dX4_isOn_5 : decode cX4_isOn 5 = .ok (.iaload, 1) := by decide +kernel
theorem dX4_isOn_6 : decode cX4_isOn 6 = .ok (.iconst (-1), 1) := by decide +kernel
theorem dX4_isOn_7 : decode cX4_isOn 7 = .ok (.if_icmp .eq 16, 3) := by decide +kernel
theorem dX4_isOn_10 : decode cX4_isOn 10 = .ok (.aload_n 0, 1) := by decide +kernel
theorem dX4_isOn_11 : decode cX4_isOn 11 = .ok (.getfield 110, 3) := by decide +kernel
theorem dX4_isOn_14 : decode cX4_isOn 14 = .ok (.aload_n 0, 1) := by decide +kernel
theorem dX4_isOn_15 : decode cX4_isOn 15 = .ok (.getfield 44, 3) := by decide +kernel
theorem dX4_isOn_18 : decode cX4_isOn 18 = .ok (.iload_n 1, 1) := by decide +kernel
theorem dX4_isOn_19 : decode cX4_isOn 19 = .ok (.iaload, 1) := by decide +kernel
theorem dX4_isOn_20 : decode cX4_isOn 20 = .ok (.if_icmp .gt 7, 3) := by decide +kernel
theorem dX4_isOn_23 : decode cX4_isOn 23 = .ok (.iconst 1, 1) := by decide +kernel
theorem dX4_isOn_24 : decode cX4_isOn 24 = .ok (.goto 4, 3) := by decide +kernel
theorem dX4_isOn_27 : decode cX4_isOn 27 = .ok (.iconst 0, 1) := by decide +kernel
theorem dX4_isOn_28 : decode cX4_isOn 28 = .ok (.ireturn, 1) := by decide +kernel
theorem dX4_setOf_0 : decode cX4_setOf 0 = .ok (.aload_n 0, 1) := by decide +kernel
theorem dX4_setOf_1 : decode cX4_setOf 1 = .ok (.getfield 38, 3) := by decide +kernel
theorem dX4_setOf_4 : decode cX4_setOf 4 = .ok (.iconst 3, 1) := by decide +kernel
theorem dX4_setOf_5 : decode cX4_setOf 5 = .ok (.iload_n 1, 1) := by decide +kernel
theorem dX4_setOf_6 : decode cX4_setOf 6 = .ok (.imul, 1) := by decide +kernel
theorem dX4_setOf_7 : decode cX4_setOf 7 = .ok (.iload_n 2, 1) := by decide +kernel
theorem dX4_setOf_8 : decode cX4_setOf 8 = .ok (.iadd, 1) := by decide +kernel
theorem dX4_setOf_9 : decode cX4_setOf 9 = .ok (.iaload, 1) := by decide +kernel
theorem dX4_setOf_10 : decode cX4_setOf 10 = .ok (.istore_n 3, 1) := by decide +kernel
theorem dX4_setOf_11 : decode cX4_setOf 11 = .ok (.iload_n 3, 1) := by decide +kernel
theorem dX4_setOf_12 : decode cX4_setOf 12 = .ok (.iconst (-1), 1) := by decide +kernel
theorem dX4_setOf_13 : decode cX4_setOf 13 = .ok (.if_icmp .ne 7, 3) := by decide +kernel
theorem dX4_setOf_16 : decode cX4_setOf 16 = .ok (.iconst (-1), 1) := by decide +kernel
theorem dX4_setOf_17 : decode cX4_setOf 17 = .ok (.goto 9, 3) := by decide +kernel
theorem dX4_setOf_20 : decode cX4_setOf 20 = .ok (.aload_n 0, 1) := by decide +kernel
theorem dX4_setOf_21 : decode cX4_setOf 21 = .ok (.getfield 59, 3) := by decide +kernel
theorem dX4_setOf_24 : decode cX4_setOf 24 = .ok (.iload_n 3, 1) := by decide +kernel
theorem dX4_setOf_25 : decode cX4_setOf 25 = .ok (.iaload, 1) := by decide +kernel
theorem dX4_setOf_26 : decode cX4_setOf 26 = .ok (.ireturn, 1) := by decide +kernel
theorem dX4_lays_0 : decode cX4_lays 0 = .ok (.bipush 97, 2) := by decide +kernel
theorem dX4_lays_2 : decode cX4_lays 2 = .ok (.iload_n 1, 1) := by decide +kernel
theorem dX4_lays_3 : decode cX4_lays 3 = .ok (.imul, 1) := by decide +kernel
theorem dX4_lays_4 : decode cX4_lays 4 = .ok (.istore 4, 2) := by decide +kernel
theorem dX4_lays_6 : decode cX4_lays 6 = .ok (.iconst 0, 1) := by decide +kernel
theorem dX4_lays_7 : decode cX4_lays 7 = .ok (.istore 5, 2) := by decide +kernel
theorem dX4_lays_9 : decode cX4_lays 9 = .ok (.iload 5, 2) := by decide +kernel
theorem dX4_lays_11 : decode cX4_lays 11 = .ok (.bipush 97, 2) := by decide +kernel
theorem dX4_lays_13 : decode cX4_lays 13 = .ok (.if_icmp .ge 20, 3) := by decide +kernel
theorem dX4_lays_16 : decode cX4_lays 16 = .ok (.aload_n 0, 1) := by decide +kernel
theorem dX4_lays_17 : decode cX4_lays 17 = .ok (.getfield 62, 3) := by decide +kernel
theorem dX4_lays_20 : decode cX4_lays 20 = .ok (.iload 4, 2) := by decide +kernel
theorem dX4_lays_22 : decode cX4_lays 22 = .ok (.iload 5, 2) := by decide +kernel
theorem dX4_lays_24 : decode cX4_lays 24 = .ok (.iadd, 1) := by decide +kernel
theorem dX4_lays_25 : decode cX4_lays 25 = .ok (.iconst 0, 1) := by decide +kernel
theorem dX4_lays_26 : decode cX4_lays 26 = .ok (.iastore, 1) := by decide +kernel
theorem dX4_lays_27 : decode cX4_lays 27 = .ok (.iinc 5 1, 3) := by decide +kernel
theorem dX4_lays_30 : decode cX4_lays 30 = .ok (.goto (-21), 3) := by decide +kernel
theorem dX4_lays_33 : decode cX4_lays 33 = .ok (.iconst 0, 1) := by decide +kernel
theorem dX4_lays_34 : decode cX4_lays 34 = .ok (.istore 5, 2) := by decide +kernel
theorem dX4_lays_36 : decode cX4_lays 36 = .ok (.iload 5, 2) := by decide +kernel
theorem dX4_lays_38 : decode cX4_lays 38 = .ok (.iload_n 3, 1) := by decide +kernel
theorem dX4_lays_39 : decode cX4_lays 39 = .ok (.if_icmp .ge 106, 3) := by decide +kernel
theorem dX4_lays_42 : decode cX4_lays 42 = .ok (.aload_n 2, 1) := by decide +kernel
theorem dX4_lays_43 : decode cX4_lays 43 = .ok (.iload 5, 2) := by decide +kernel
theorem dX4_lays_45 : decode cX4_lays 45 = .ok (.iaload, 1) := by decide +kernel
theorem dX4_lays_46 : decode cX4_lays 46 = .ok (.istore 6, 2) := by decide +kernel
theorem dX4_lays_48 : decode cX4_lays 48 = .ok (.aload_n 0, 1) := by decide +kernel
theorem dX4_lays_49 : decode cX4_lays 49 = .ok (.iload 6, 2) := by decide +kernel
theorem dX4_lays_51 : decode cX4_lays 51 = .ok (.invokevirtual 113, 3) := by decide +kernel
theorem dX4_lays_54 : decode cX4_lays 54 = .ok (.ifCond .eq 85, 3) := by decide +kernel
theorem dX4_lays_57 : decode cX4_lays 57 = .ok (.aload_n 0, 1) := by decide +kernel
theorem dX4_lays_58 : decode cX4_lays 58 = .ok (.getfield 62, 3) := by decide +kernel
theorem dX4_lays_61 : decode cX4_lays 61 = .ok (.iload 4, 2) := by decide +kernel
theorem dX4_lays_63 : decode cX4_lays 63 = .ok (.bipush 96, 2) := by decide +kernel
theorem dX4_lays_65 : decode cX4_lays 65 = .ok (.iadd, 1) := by decide +kernel
theorem dX4_lays_66 : decode cX4_lays 66 = .ok (.dup2, 1) := by decide +kernel
theorem dX4_lays_67 : decode cX4_lays 67 = .ok (.iaload, 1) := by decide +kernel
theorem dX4_lays_68 : decode cX4_lays 68 = .ok (.aload_n 0, 1) := by decide +kernel
theorem dX4_lays_69 : decode cX4_lays 69 = .ok (.getfield 35, 3) := by decide +kernel
theorem dX4_lays_72 : decode cX4_lays 72 = .ok (.iload 6, 2) := by decide +kernel
theorem dX4_lays_74 : decode cX4_lays 74 = .ok (.baload, 1) := by decide +kernel
theorem dX4_lays_75 : decode cX4_lays 75 = .ok (.ifCond .eq 10, 3) := by decide +kernel
theorem dX4_lays_78 : decode cX4_lays 78 = .ok (.iconst 1, 1) := by decide +kernel
theorem dX4_lays_79 : decode cX4_lays 79 = .ok (.iload 5, 2) := by decide +kernel
theorem dX4_lays_81 : decode cX4_lays 81 = .ok (.ishl, 1) := by decide +kernel
theorem dX4_lays_82 : decode cX4_lays 82 = .ok (.goto 4, 3) := by decide +kernel
theorem dX4_lays_85 : decode cX4_lays 85 = .ok (.iconst 0, 1) := by decide +kernel
theorem dX4_lays_86 : decode cX4_lays 86 = .ok (.ior, 1) := by decide +kernel
theorem dX4_lays_87 : decode cX4_lays 87 = .ok (.iastore, 1) := by decide +kernel
theorem dX4_lays_88 : decode cX4_lays 88 = .ok (.iconst 0, 1) := by decide +kernel
theorem dX4_lays_89 : decode cX4_lays 89 = .ok (.istore 7, 2) := by decide +kernel
theorem dX4_lays_91 : decode cX4_lays 91 = .ok (.iload 7, 2) := by decide +kernel
theorem dX4_lays_93 : decode cX4_lays 93 = .ok (.bipush 96, 2) := by decide +kernel
theorem dX4_lays_95 : decode cX4_lays 95 = .ok (.if_icmp .ge 44, 3) := by decide +kernel
theorem dX4_lays_98 : decode cX4_lays 98 = .ok (.aload_n 0, 1) := by decide +kernel
theorem dX4_lays_99 : decode cX4_lays 99 = .ok (.getfield 62, 3) := by decide +kernel
theorem dX4_lays_102 : decode cX4_lays 102 = .ok (.iload 4, 2) := by decide +kernel
theorem dX4_lays_104 : decode cX4_lays 104 = .ok (.iload 7, 2) := by decide +kernel
theorem dX4_lays_106 : decode cX4_lays 106 = .ok (.iadd, 1) := by decide +kernel
theorem dX4_lays_107 : decode cX4_lays 107 = .ok (.dup2, 1) := by decide +kernel
theorem dX4_lays_108 : decode cX4_lays 108 = .ok (.iaload, 1) := by decide +kernel
theorem dX4_lays_109 : decode cX4_lays 109 = .ok (.aload_n 0, 1) := by decide +kernel
theorem dX4_lays_110 : decode cX4_lays 110 = .ok (.iload 6, 2) := by decide +kernel
theorem dX4_lays_112 : decode cX4_lays 112 = .ok (.iload 7, 2) := by decide +kernel
theorem dX4_lays_114 : decode cX4_lays 114 = .ok (.bipush 32, 2) := by decide +kernel
theorem dX4_lays_116 : decode cX4_lays 116 = .ok (.idiv, 1) := by decide +kernel
theorem dX4_lays_117 : decode cX4_lays 117 = .ok (.invokevirtual 116, 3) := by decide +kernel
theorem dX4_lays_120 : decode cX4_lays 120 = .ok (.iload 7, 2) := by decide +kernel
theorem dX4_lays_122 : decode cX4_lays 122 = .ok (.bipush 32, 2) := by decide +kernel
theorem dX4_lays_124 : decode cX4_lays 124 = .ok (.irem, 1) := by decide +kernel
theorem dX4_lays_125 : decode cX4_lays 125 = .ok (.ishr, 1) := by decide +kernel
theorem dX4_lays_126 : decode cX4_lays 126 = .ok (.iconst 1, 1) := by decide +kernel
theorem dX4_lays_127 : decode cX4_lays 127 = .ok (.iand, 1) := by decide +kernel
theorem dX4_lays_128 : decode cX4_lays 128 = .ok (.iload 5, 2) := by decide +kernel
theorem dX4_lays_130 : decode cX4_lays 130 = .ok (.ishl, 1) := by decide +kernel
theorem dX4_lays_131 : decode cX4_lays 131 = .ok (.ior, 1) := by decide +kernel
theorem dX4_lays_132 : decode cX4_lays 132 = .ok (.iastore, 1) := by decide +kernel
theorem dX4_lays_133 : decode cX4_lays 133 = .ok (.iinc 7 1, 3) := by decide +kernel
theorem dX4_lays_136 : decode cX4_lays 136 = .ok (.goto (-45), 3) := by decide +kernel
theorem dX4_lays_139 : decode cX4_lays 139 = .ok (.iinc 5 1, 3) := by decide +kernel
theorem dX4_lays_142 : decode cX4_lays 142 = .ok (.goto (-106), 3) := by decide +kernel
theorem dX4_lays_145 : decode cX4_lays 145 = .ok (.return_, 1) := by decide +kernel
theorem dX4_first_0 : decode cX4_first 0 = .ok (.iload_n 0, 1) := by decide +kernel
theorem dX4_first_1 : decode cX4_first 1 = .ok (.iload_n 0, 1) := by decide +kernel
theorem dX4_first_2 : decode cX4_first 2 = .ok (.ineg, 1) := by decide +kernel
theorem dX4_first_3 : decode cX4_first 3 = .ok (.iand, 1) := by decide +kernel
theorem dX4_first_4 : decode cX4_first 4 = .ok (.ireturn, 1) := by decide +kernel
theorem dX4_laysNow_0 : decode cX4_laysNow 0 = .ok (.aload_n 0, 1) := by decide +kernel
theorem dX4_laysNow_1 : decode cX4_laysNow 1 = .ok (.iconst (-1), 1) := by decide +kernel
theorem dX4_laysNow_2 : decode cX4_laysNow 2 = .ok (.iconst 0, 1) := by decide +kernel
theorem dX4_laysNow_3 : decode cX4_laysNow 3 = .ok (.invokevirtual 103, 3) := by decide +kernel
theorem dX4_laysNow_6 : decode cX4_laysNow 6 = .ok (.aload_n 0, 1) := by decide +kernel
theorem dX4_laysNow_7 : decode cX4_laysNow 7 = .ok (.iconst 0, 1) := by decide +kernel
theorem dX4_laysNow_8 : decode cX4_laysNow 8 = .ok (.aload_n 0, 1) := by decide +kernel
theorem dX4_laysNow_9 : decode cX4_laysNow 9 = .ok (.getfield 25, 3) := by decide +kernel
theorem dX4_laysNow_12 : decode cX4_laysNow 12 = .ok (.aload_n 0, 1) := by decide +kernel
theorem dX4_laysNow_13 : decode cX4_laysNow 13 = .ok (.getfield 79, 3) := by decide +kernel
theorem dX4_laysNow_16 : decode cX4_laysNow 16 = .ok (.invokevirtual 119, 3) := by decide +kernel
theorem dX4_laysNow_19 : decode cX4_laysNow 19 = .ok (.iconst 0, 1) := by decide +kernel
theorem dX4_laysNow_20 : decode cX4_laysNow 20 = .ok (.ireturn, 1) := by decide +kernel
theorem dX4_unlike_0 : decode cX4_unlike 0 = .ok (.iconst 0, 1) := by decide +kernel
theorem dX4_unlike_1 : decode cX4_unlike 1 = .ok (.istore_n 1, 1) := by decide +kernel
theorem dX4_unlike_2 : decode cX4_unlike 2 = .ok (.iconst 0, 1) := by decide +kernel
theorem dX4_unlike_3 : decode cX4_unlike 3 = .ok (.istore_n 2, 1) := by decide +kernel
theorem dX4_unlike_4 : decode cX4_unlike 4 = .ok (.iload_n 2, 1) := by decide +kernel
theorem dX4_unlike_5 : decode cX4_unlike 5 = .ok (.ldc 123, 2) := by decide +kernel
theorem dX4_unlike_7 : decode cX4_unlike 7 = .ok (.if_icmp .ge 152, 3) := by decide +kernel
theorem dX4_unlike_10 : decode cX4_unlike 10 = .ok (.aload_n 0, 1) := by decide +kernel
theorem dX4_unlike_11 : decode cX4_unlike 11 = .ok (.getfield 62, 3) := by decide +kernel
theorem dX4_unlike_14 : decode cX4_unlike 14 = .ok (.iload_n 2, 1) := by decide +kernel
theorem dX4_unlike_15 : decode cX4_unlike 15 = .ok (.sipush 1024, 3) := by decide +kernel
theorem dX4_unlike_18 : decode cX4_unlike 18 = .ok (.idiv, 1) := by decide +kernel
theorem dX4_unlike_19 : decode cX4_unlike 19 = .ok (.iaload, 1) := by decide +kernel
theorem dX4_unlike_20 : decode cX4_unlike 20 = .ok (.aload_n 0, 1) := by decide +kernel
theorem dX4_unlike_21 : decode cX4_unlike 21 = .ok (.getfield 62, 3) := by decide +kernel
theorem dX4_unlike_24 : decode cX4_unlike 24 = .ok (.bipush 32, 2) := by decide +kernel
theorem dX4_unlike_26 : decode cX4_unlike 26 = .ok (.iload_n 2, 1) := by decide +kernel
theorem dX4_unlike_27 : decode cX4_unlike 27 = .ok (.bipush 32, 2) := by decide +kernel
theorem dX4_unlike_29 : decode cX4_unlike 29 = .ok (.idiv, 1) := by decide +kernel
theorem dX4_unlike_30 : decode cX4_unlike 30 = .ok (.bipush 32, 2) := by decide +kernel
theorem dX4_unlike_32 : decode cX4_unlike 32 = .ok (.irem, 1) := by decide +kernel
theorem dX4_unlike_33 : decode cX4_unlike 33 = .ok (.iadd, 1) := by decide +kernel
theorem dX4_unlike_34 : decode cX4_unlike 34 = .ok (.iaload, 1) := by decide +kernel
theorem dX4_unlike_35 : decode cX4_unlike 35 = .ok (.iand, 1) := by decide +kernel
theorem dX4_unlike_36 : decode cX4_unlike 36 = .ok (.aload_n 0, 1) := by decide +kernel
theorem dX4_unlike_37 : decode cX4_unlike 37 = .ok (.getfield 62, 3) := by decide +kernel
theorem dX4_unlike_40 : decode cX4_unlike 40 = .ok (.bipush 64, 2) := by decide +kernel
theorem dX4_unlike_42 : decode cX4_unlike 42 = .ok (.iload_n 2, 1) := by decide +kernel
theorem dX4_unlike_43 : decode cX4_unlike 43 = .ok (.bipush 32, 2) := by decide +kernel
theorem dX4_unlike_45 : decode cX4_unlike 45 = .ok (.irem, 1) := by decide +kernel
theorem dX4_unlike_46 : decode cX4_unlike 46 = .ok (.iadd, 1) := by decide +kernel
theorem dX4_unlike_47 : decode cX4_unlike 47 = .ok (.iaload, 1) := by decide +kernel
theorem dX4_unlike_48 : decode cX4_unlike 48 = .ok (.iand, 1) := by decide +kernel
theorem dX4_unlike_49 : decode cX4_unlike 49 = .ok (.istore_n 3, 1) := by decide +kernel
theorem dX4_unlike_50 : decode cX4_unlike 50 = .ok (.aload_n 0, 1) := by decide +kernel
theorem dX4_unlike_51 : decode cX4_unlike 51 = .ok (.getfield 62, 3) := by decide +kernel
theorem dX4_unlike_54 : decode cX4_unlike 54 = .ok (.bipush 97, 2) := by decide +kernel
theorem dX4_unlike_56 : decode cX4_unlike 56 = .ok (.iload_n 2, 1) := by decide +kernel
theorem dX4_unlike_57 : decode cX4_unlike 57 = .ok (.sipush 1024, 3) := by decide +kernel
theorem dX4_unlike_60 : decode cX4_unlike 60 = .ok (.idiv, 1) := by decide +kernel
theorem dX4_unlike_61 : decode cX4_unlike 61 = .ok (.iadd, 1) := by decide +kernel
theorem dX4_unlike_62 : decode cX4_unlike 62 = .ok (.iaload, 1) := by decide +kernel
theorem dX4_unlike_63 : decode cX4_unlike 63 = .ok (.aload_n 0, 1) := by decide +kernel
theorem dX4_unlike_64 : decode cX4_unlike 64 = .ok (.getfield 62, 3) := by decide +kernel
theorem dX4_unlike_67 : decode cX4_unlike 67 = .ok (.sipush 129, 3) := by decide +kernel
theorem dX4_unlike_70 : decode cX4_unlike 70 = .ok (.iload_n 2, 1) := by decide +kernel
theorem dX4_unlike_71 : decode cX4_unlike 71 = .ok (.bipush 32, 2) := by decide +kernel
theorem dX4_unlike_73 : decode cX4_unlike 73 = .ok (.idiv, 1) := by decide +kernel
theorem dX4_unlike_74 : decode cX4_unlike 74 = .ok (.bipush 32, 2) := by decide +kernel
theorem dX4_unlike_76 : decode cX4_unlike 76 = .ok (.irem, 1) := by decide +kernel
theorem dX4_unlike_77 : decode cX4_unlike 77 = .ok (.iadd, 1) := by decide +kernel
theorem dX4_unlike_78 : decode cX4_unlike 78 = .ok (.iaload, 1) := by decide +kernel
theorem dX4_unlike_79 : decode cX4_unlike 79 = .ok (.iand, 1) := by decide +kernel
theorem dX4_unlike_80 : decode cX4_unlike 80 = .ok (.aload_n 0, 1) := by decide +kernel
theorem dX4_unlike_81 : decode cX4_unlike 81 = .ok (.getfield 62, 3) := by decide +kernel
theorem dX4_unlike_84 : decode cX4_unlike 84 = .ok (.sipush 161, 3) := by decide +kernel
theorem dX4_unlike_87 : decode cX4_unlike 87 = .ok (.iload_n 2, 1) := by decide +kernel
theorem dX4_unlike_88 : decode cX4_unlike 88 = .ok (.bipush 32, 2) := by decide +kernel
theorem dX4_unlike_90 : decode cX4_unlike 90 = .ok (.irem, 1) := by decide +kernel
theorem dX4_unlike_91 : decode cX4_unlike 91 = .ok (.iadd, 1) := by decide +kernel
theorem dX4_unlike_92 : decode cX4_unlike 92 = .ok (.iaload, 1) := by decide +kernel
theorem dX4_unlike_93 : decode cX4_unlike 93 = .ok (.iand, 1) := by decide +kernel
theorem dX4_unlike_94 : decode cX4_unlike 94 = .ok (.istore 4, 2) := by decide +kernel
theorem dX4_unlike_96 : decode cX4_unlike 96 = .ok (.iload_n 3, 1) := by decide +kernel
theorem dX4_unlike_97 : decode cX4_unlike 97 = .ok (.invokestatic 124, 3) := by decide +kernel
theorem dX4_unlike_100 : decode cX4_unlike 100 = .ok (.aload_n 0, 1) := by decide +kernel
theorem dX4_unlike_101 : decode cX4_unlike 101 = .ok (.getfield 62, 3) := by decide +kernel
theorem dX4_unlike_104 : decode cX4_unlike 104 = .ok (.bipush 96, 2) := by decide +kernel
theorem dX4_unlike_106 : decode cX4_unlike 106 = .ok (.iaload, 1) := by decide +kernel
theorem dX4_unlike_107 : decode cX4_unlike 107 = .ok (.iand, 1) := by decide +kernel
theorem dX4_unlike_108 : decode cX4_unlike 108 = .ok (.ifCond .eq 7, 3) := by decide +kernel
theorem dX4_unlike_111 : decode cX4_unlike 111 = .ok (.iconst 1, 1) := by decide +kernel
theorem dX4_unlike_112 : decode cX4_unlike 112 = .ok (.goto 4, 3) := by decide +kernel
theorem dX4_unlike_115 : decode cX4_unlike 115 = .ok (.iconst 0, 1) := by decide +kernel
theorem dX4_unlike_116 : decode cX4_unlike 116 = .ok (.istore 5, 2) := by decide +kernel
theorem dX4_unlike_118 : decode cX4_unlike 118 = .ok (.iload_n 1, 1) := by decide +kernel
theorem dX4_unlike_119 : decode cX4_unlike 119 = .ok (.iload 5, 2) := by decide +kernel
theorem dX4_unlike_121 : decode cX4_unlike 121 = .ok (.iload 4, 2) := by decide +kernel
theorem dX4_unlike_123 : decode cX4_unlike 123 = .ok (.invokestatic 124, 3) := by decide +kernel
theorem dX4_unlike_126 : decode cX4_unlike 126 = .ok (.aload_n 0, 1) := by decide +kernel
theorem dX4_unlike_127 : decode cX4_unlike 127 = .ok (.getfield 62, 3) := by decide +kernel
theorem dX4_unlike_130 : decode cX4_unlike 130 = .ok (.sipush 193, 3) := by decide +kernel
theorem dX4_unlike_133 : decode cX4_unlike 133 = .ok (.iaload, 1) := by decide +kernel
theorem dX4_unlike_134 : decode cX4_unlike 134 = .ok (.iand, 1) := by decide +kernel
theorem dX4_unlike_135 : decode cX4_unlike 135 = .ok (.ifCond .eq 7, 3) := by decide +kernel
theorem dX4_unlike_138 : decode cX4_unlike 138 = .ok (.iconst 1, 1) := by decide +kernel
theorem dX4_unlike_139 : decode cX4_unlike 139 = .ok (.goto 4, 3) := by decide +kernel
theorem dX4_unlike_142 : decode cX4_unlike 142 = .ok (.iconst 0, 1) := by decide +kernel
theorem dX4_unlike_143 : decode cX4_unlike 143 = .ok (.if_icmp .eq 7, 3) := by decide +kernel
theorem dX4_unlike_146 : decode cX4_unlike 146 = .ok (.iconst 1, 1) := by decide +kernel
theorem dX4_unlike_147 : decode cX4_unlike 147 = .ok (.goto 4, 3) := by decide +kernel
theorem dX4_unlike_150 : decode cX4_unlike 150 = .ok (.iconst 0, 1) := by decide +kernel
theorem dX4_unlike_151 : decode cX4_unlike 151 = .ok (.iadd, 1) := by decide +kernel
theorem dX4_unlike_152 : decode cX4_unlike 152 = .ok (.istore_n 1, 1) := by decide +kernel
theorem dX4_unlike_153 : decode cX4_unlike 153 = .ok (.iinc 2 1, 3) := by decide +kernel
theorem dX4_unlike_156 : decode cX4_unlike 156 = .ok (.goto (-152), 3) := by decide +kernel
theorem dX4_unlike_159 : decode cX4_unlike 159 = .ok (.iload_n 1, 1) := by decide +kernel
theorem dX4_unlike_160 : decode cX4_unlike 160 = .ok (.ireturn, 1) := by decide +kernel
theorem dX4_addRule_0 : decode cX4_addRule 0 = .ok (.aload_n 0, 1) := by decide +kernel
theorem dX4_addRule_1 : decode cX4_addRule 1 = .ok (.iconst 0, 1) := by decide +kernel
theorem dX4_addRule_2 : decode cX4_addRule 2 = .ok (.putfield 68, 3) := by decide +kernel
theorem dX4_addRule_5 : decode cX4_addRule 5 = .ok (.iload_n 1, 1) := by decide +kernel
theorem dX4_addRule_6 : decode cX4_addRule 6 = .ok (.iconst 0, 1) := by decide +kernel
theorem dX4_addRule_7 : decode cX4_addRule 7 = .ok (.aload_n 0, 1) := by decide +kernel
theorem dX4_addRule_8 : decode cX4_addRule 8 = .ok (.getfield 79, 3) := by decide +kernel
theorem dX4_addRule_11 : decode cX4_addRule 11 = .ok (.invokestatic 75, 3) := by decide +kernel
theorem dX4_addRule_14 : decode cX4_addRule 14 = .ok (.ifCond .eq 47, 3) := by decide +kernel
theorem dX4_addRule_17 : decode cX4_addRule 17 = .ok (.iload_n 3, 1) := by decide +kernel
theorem dX4_addRule_18 : decode cX4_addRule 18 = .ok (.iconst (-1), 1) := by decide +kernel
theorem dX4_addRule_19 : decode cX4_addRule 19 = .ok (.aload_n 0, 1) := by decide +kernel
theorem dX4_addRule_20 : decode cX4_addRule 20 = .ok (.getfield 72, 3) := by decide +kernel
theorem dX4_addRule_23 : decode cX4_addRule 23 = .ok (.iconst 1, 1) := by decide +kernel
theorem dX4_addRule_24 : decode cX4_addRule 24 = .ok (.isub, 1) := by decide +kernel
theorem dX4_addRule_25 : decode cX4_addRule 25 = .ok (.invokestatic 75, 3) := by decide +kernel
theorem dX4_addRule_28 : decode cX4_addRule 28 = .ok (.ifCond .eq 33, 3) := by decide +kernel
theorem dX4_addRule_31 : decode cX4_addRule 31 = .ok (.iload 4, 2) := by decide +kernel
theorem dX4_addRule_33 : decode cX4_addRule 33 = .ok (.iconst (-1), 1) := by decide +kernel
theorem dX4_addRule_34 : decode cX4_addRule 34 = .ok (.aload_n 0, 1) := by decide +kernel
theorem dX4_addRule_35 : decode cX4_addRule 35 = .ok (.getfield 72, 3) := by decide +kernel
theorem dX4_addRule_38 : decode cX4_addRule 38 = .ok (.iconst 1, 1) := by decide +kernel
theorem dX4_addRule_39 : decode cX4_addRule 39 = .ok (.isub, 1) := by decide +kernel
theorem dX4_addRule_40 : decode cX4_addRule 40 = .ok (.invokestatic 75, 3) := by decide +kernel
theorem dX4_addRule_43 : decode cX4_addRule 43 = .ok (.ifCond .eq 18, 3) := by decide +kernel
theorem dX4_addRule_46 : decode cX4_addRule 46 = .ok (.iload 5, 2) := by decide +kernel
theorem dX4_addRule_48 : decode cX4_addRule 48 = .ok (.iconst (-1), 1) := by decide +kernel
theorem dX4_addRule_49 : decode cX4_addRule 49 = .ok (.aload_n 0, 1) := by decide +kernel
theorem dX4_addRule_50 : decode cX4_addRule 50 = .ok (.getfield 72, 3) := by decide +kernel
theorem dX4_addRule_53 : decode cX4_addRule 53 = .ok (.iconst 1, 1) := by decide +kernel
theorem dX4_addRule_54 : decode cX4_addRule 54 = .ok (.isub, 1) := by decide +kernel
theorem dX4_addRule_55 : decode cX4_addRule 55 = .ok (.invokestatic 75, 3) := by decide +kernel
theorem dX4_addRule_58 : decode cX4_addRule 58 = .ok (.ifCond .ne 9, 3) := by decide +kernel
theorem dX4_addRule_61 : decode cX4_addRule 61 = .ok (.aload_n 0, 1) := by decide +kernel
theorem dX4_addRule_62 : decode cX4_addRule 62 = .ok (.iconst 1, 1) := by decide +kernel
theorem dX4_addRule_63 : decode cX4_addRule 63 = .ok (.invokevirtual 90, 3) := by decide +kernel
theorem dX4_addRule_66 : decode cX4_addRule 66 = .ok (.ireturn, 1) := by decide +kernel
theorem dX4_addRule_67 : decode cX4_addRule 67 = .ok (.iload_n 2, 1) := by decide +kernel
theorem dX4_addRule_68 : decode cX4_addRule 68 = .ok (.bipush 97, 2) := by decide +kernel
theorem dX4_addRule_70 : decode cX4_addRule 70 = .ok (.if_icmp .eq 9, 3) := by decide +kernel
theorem dX4_addRule_73 : decode cX4_addRule 73 = .ok (.iload_n 2, 1) := by decide +kernel
theorem dX4_addRule_74 : decode cX4_addRule 74 = .ok (.bipush 100, 2) := by decide +kernel
theorem dX4_addRule_76 : decode cX4_addRule 76 = .ok (.if_icmp .ne 13, 3) := by decide +kernel
theorem dX4_addRule_79 : decode cX4_addRule 79 = .ok (.iload 6, 2) := by decide +kernel
theorem dX4_addRule_81 : decode cX4_addRule 81 = .ok (.iconst 0, 1) := by decide +kernel
theorem dX4_addRule_82 : decode cX4_addRule 82 = .ok (.iconst 5, 1) := by decide +kernel
theorem dX4_addRule_83 : decode cX4_addRule 83 = .ok (.invokestatic 75, 3) := by decide +kernel
theorem dX4_addRule_86 : decode cX4_addRule 86 = .ok (.ifCond .ne 9, 3) := by decide +kernel
theorem dX4_addRule_89 : decode cX4_addRule 89 = .ok (.aload_n 0, 1) := by decide +kernel
theorem dX4_addRule_90 : decode cX4_addRule 90 = .ok (.iconst 2, 1) := by decide +kernel
theorem dX4_addRule_91 : decode cX4_addRule 91 = .ok (.invokevirtual 90, 3) := by decide +kernel
theorem dX4_addRule_94 : decode cX4_addRule 94 = .ok (.ireturn, 1) := by decide +kernel
theorem dX4_addRule_95 : decode cX4_addRule 95 = .ok (.aload_n 0, 1) := by decide +kernel
theorem dX4_addRule_96 : decode cX4_addRule 96 = .ok (.getfield 79, 3) := by decide +kernel
theorem dX4_addRule_99 : decode cX4_addRule 99 = .ok (.bipush 8, 2) := by decide +kernel
theorem dX4_addRule_101 : decode cX4_addRule 101 = .ok (.if_icmp .ne 9, 3) := by decide +kernel
theorem dX4_addRule_104 : decode cX4_addRule 104 = .ok (.aload_n 0, 1) := by decide +kernel
theorem dX4_addRule_105 : decode cX4_addRule 105 = .ok (.iconst 3, 1) := by decide +kernel
theorem dX4_addRule_106 : decode cX4_addRule 106 = .ok (.invokevirtual 90, 3) := by decide +kernel
theorem dX4_addRule_109 : decode cX4_addRule 109 = .ok (.ireturn, 1) := by decide +kernel
theorem dX4_addRule_110 : decode cX4_addRule 110 = .ok (.iconst 0, 1) := by decide +kernel
theorem dX4_addRule_111 : decode cX4_addRule 111 = .ok (.istore 7, 2) := by decide +kernel
theorem dX4_addRule_113 : decode cX4_addRule 113 = .ok (.aload_n 0, 1) := by decide +kernel
theorem dX4_addRule_114 : decode cX4_addRule 114 = .ok (.getfield 28, 3) := by decide +kernel
theorem dX4_addRule_117 : decode cX4_addRule 117 = .ok (.iload 7, 2) := by decide +kernel
theorem dX4_addRule_119 : decode cX4_addRule 119 = .ok (.baload, 1) := by decide +kernel
theorem dX4_addRule_120 : decode cX4_addRule 120 = .ok (.ifCond .eq 9, 3) := by decide +kernel
theorem dX4_addRule_123 : decode cX4_addRule 123 = .ok (.iinc 7 1, 3) := by decide +kernel
theorem dX4_addRule_126 : decode cX4_addRule 126 = .ok (.goto (-13), 3) := by decide +kernel
theorem dX4_addRule_129 : decode cX4_addRule 129 = .ok (.aload_n 0, 1) := by decide +kernel
theorem dX4_addRule_130 : decode cX4_addRule 130 = .ok (.getfield 28, 3) := by decide +kernel
theorem dX4_addRule_133 : decode cX4_addRule 133 = .ok (.iload 7, 2) := by decide +kernel
theorem dX4_addRule_135 : decode cX4_addRule 135 = .ok (.iconst 1, 1) := by decide +kernel
theorem dX4_addRule_136 : decode cX4_addRule 136 = .ok (.bastore, 1) := by decide +kernel
theorem dX4_addRule_137 : decode cX4_addRule 137 = .ok (.aload_n 0, 1) := by decide +kernel
theorem dX4_addRule_138 : decode cX4_addRule 138 = .ok (.getfield 32, 3) := by decide +kernel
theorem dX4_addRule_141 : decode cX4_addRule 141 = .ok (.iload 7, 2) := by decide +kernel
theorem dX4_addRule_143 : decode cX4_addRule 143 = .ok (.aload_n 0, 1) := by decide +kernel
theorem dX4_addRule_144 : decode cX4_addRule 144 = .ok (.getfield 127, 3) := by decide +kernel
theorem dX4_addRule_147 : decode cX4_addRule 147 = .ok (.iastore, 1) := by decide +kernel
theorem dX4_addRule_148 : decode cX4_addRule 148 = .ok (.aload_n 0, 1) := by decide +kernel
theorem dX4_addRule_149 : decode cX4_addRule 149 = .ok (.getfield 35, 3) := by decide +kernel
theorem dX4_addRule_152 : decode cX4_addRule 152 = .ok (.iload 7, 2) := by decide +kernel
theorem dX4_addRule_154 : decode cX4_addRule 154 = .ok (.iload_n 2, 1) := by decide +kernel
theorem dX4_addRule_155 : decode cX4_addRule 155 = .ok (.bipush 97, 2) := by decide +kernel
theorem dX4_addRule_157 : decode cX4_addRule 157 = .ok (.if_icmp .ne 7, 3) := by decide +kernel
theorem dX4_addRule_160 : decode cX4_addRule 160 = .ok (.iconst 1, 1) := by decide +kernel
theorem dX4_addRule_161 : decode cX4_addRule 161 = .ok (.goto 4, 3) := by decide +kernel
theorem dX4_addRule_164 : decode cX4_addRule 164 = .ok (.iconst 0, 1) := by decide +kernel
theorem dX4_addRule_165 : decode cX4_addRule 165 = .ok (.bastore, 1) := by decide +kernel
theorem dX4_addRule_166 : decode cX4_addRule 166 = .ok (.aload_n 0, 1) := by decide +kernel
theorem dX4_addRule_167 : decode cX4_addRule 167 = .ok (.getfield 38, 3) := by decide +kernel
theorem dX4_addRule_170 : decode cX4_addRule 170 = .ok (.iconst 3, 1) := by decide +kernel
theorem dX4_addRule_171 : decode cX4_addRule 171 = .ok (.iload 7, 2) := by decide +kernel
theorem dX4_addRule_173 : decode cX4_addRule 173 = .ok (.imul, 1) := by decide +kernel
theorem dX4_addRule_174 : decode cX4_addRule 174 = .ok (.iload_n 3, 1) := by decide +kernel
theorem dX4_addRule_175 : decode cX4_addRule 175 = .ok (.iastore, 1) := by decide +kernel
theorem dX4_addRule_176 : decode cX4_addRule 176 = .ok (.aload_n 0, 1) := by decide +kernel
theorem dX4_addRule_177 : decode cX4_addRule 177 = .ok (.getfield 38, 3) := by decide +kernel
theorem dX4_addRule_180 : decode cX4_addRule 180 = .ok (.iconst 3, 1) := by decide +kernel
theorem dX4_addRule_181 : decode cX4_addRule 181 = .ok (.iload 7, 2) := by decide +kernel
theorem dX4_addRule_183 : decode cX4_addRule 183 = .ok (.imul, 1) := by decide +kernel
theorem dX4_addRule_184 : decode cX4_addRule 184 = .ok (.iconst 1, 1) := by decide +kernel
theorem dX4_addRule_185 : decode cX4_addRule 185 = .ok (.iadd, 1) := by decide +kernel
theorem dX4_addRule_186 : decode cX4_addRule 186 = .ok (.iload 4, 2) := by decide +kernel
theorem dX4_addRule_188 : decode cX4_addRule 188 = .ok (.iastore, 1) := by decide +kernel
theorem dX4_addRule_189 : decode cX4_addRule 189 = .ok (.aload_n 0, 1) := by decide +kernel
theorem dX4_addRule_190 : decode cX4_addRule 190 = .ok (.getfield 38, 3) := by decide +kernel
theorem dX4_addRule_193 : decode cX4_addRule 193 = .ok (.iconst 3, 1) := by decide +kernel
theorem dX4_addRule_194 : decode cX4_addRule 194 = .ok (.iload 7, 2) := by decide +kernel
theorem dX4_addRule_196 : decode cX4_addRule 196 = .ok (.imul, 1) := by decide +kernel
theorem dX4_addRule_197 : decode cX4_addRule 197 = .ok (.iconst 2, 1) := by decide +kernel
theorem dX4_addRule_198 : decode cX4_addRule 198 = .ok (.iadd, 1) := by decide +kernel
theorem dX4_addRule_199 : decode cX4_addRule 199 = .ok (.iload 5, 2) := by decide +kernel
theorem dX4_addRule_201 : decode cX4_addRule 201 = .ok (.iastore, 1) := by decide +kernel
theorem dX4_addRule_202 : decode cX4_addRule 202 = .ok (.aload_n 0, 1) := by decide +kernel
theorem dX4_addRule_203 : decode cX4_addRule 203 = .ok (.getfield 41, 3) := by decide +kernel
theorem dX4_addRule_206 : decode cX4_addRule 206 = .ok (.iload 7, 2) := by decide +kernel
theorem dX4_addRule_208 : decode cX4_addRule 208 = .ok (.iload 6, 2) := by decide +kernel
theorem dX4_addRule_210 : decode cX4_addRule 210 = .ok (.iastore, 1) := by decide +kernel
theorem dX4_addRule_211 : decode cX4_addRule 211 = .ok (.aload_n 0, 1) := by decide +kernel
theorem dX4_addRule_212 : decode cX4_addRule 212 = .ok (.getfield 44, 3) := by decide +kernel
theorem dX4_addRule_215 : decode cX4_addRule 215 = .ok (.iload 7, 2) := by decide +kernel
theorem dX4_addRule_217 : decode cX4_addRule 217 = .ok (.iconst (-1), 1) := by decide +kernel
theorem dX4_addRule_218 : decode cX4_addRule 218 = .ok (.iastore, 1) := by decide +kernel
theorem dX4_addRule_219 : decode cX4_addRule 219 = .ok (.aload_n 0, 1) := by decide +kernel
theorem dX4_addRule_220 : decode cX4_addRule 220 = .ok (.getfield 47, 3) := by decide +kernel
theorem dX4_addRule_223 : decode cX4_addRule 223 = .ok (.iload 7, 2) := by decide +kernel
theorem dX4_addRule_225 : decode cX4_addRule 225 = .ok (.iconst 0, 1) := by decide +kernel
theorem dX4_addRule_226 : decode cX4_addRule 226 = .ok (.iastore, 1) := by decide +kernel
theorem dX4_addRule_227 : decode cX4_addRule 227 = .ok (.aload_n 0, 1) := by decide +kernel
theorem dX4_addRule_228 : decode cX4_addRule 228 = .ok (.getfield 50, 3) := by decide +kernel
theorem dX4_addRule_231 : decode cX4_addRule 231 = .ok (.iload 7, 2) := by decide +kernel
theorem dX4_addRule_233 : decode cX4_addRule 233 = .ok (.aload_n 0, 1) := by decide +kernel
theorem dX4_addRule_234 : decode cX4_addRule 234 = .ok (.getfield 110, 3) := by decide +kernel
theorem dX4_addRule_237 : decode cX4_addRule 237 = .ok (.iastore, 1) := by decide +kernel
theorem dX4_addRule_238 : decode cX4_addRule 238 = .ok (.aload_n 0, 1) := by decide +kernel
theorem dX4_addRule_239 : decode cX4_addRule 239 = .ok (.getfield 53, 3) := by decide +kernel
theorem dX4_addRule_242 : decode cX4_addRule 242 = .ok (.iload 7, 2) := by decide +kernel
theorem dX4_addRule_244 : decode cX4_addRule 244 = .ok (.iconst 0, 1) := by decide +kernel
theorem dX4_addRule_245 : decode cX4_addRule 245 = .ok (.iastore, 1) := by decide +kernel
theorem dX4_addRule_246 : decode cX4_addRule 246 = .ok (.aload_n 0, 1) := by decide +kernel
theorem dX4_addRule_247 : decode cX4_addRule 247 = .ok (.getfield 56, 3) := by decide +kernel
theorem dX4_addRule_250 : decode cX4_addRule 250 = .ok (.iload 7, 2) := by decide +kernel
theorem dX4_addRule_252 : decode cX4_addRule 252 = .ok (.iconst (-1), 1) := by decide +kernel
theorem dX4_addRule_253 : decode cX4_addRule 253 = .ok (.iastore, 1) := by decide +kernel
theorem dX4_addRule_254 : decode cX4_addRule 254 = .ok (.aload_n 0, 1) := by decide +kernel
theorem dX4_addRule_255 : decode cX4_addRule 255 = .ok (.getfield 79, 3) := by decide +kernel
theorem dX4_addRule_258 : decode cX4_addRule 258 = .ok (.istore 8, 2) := by decide +kernel
theorem dX4_addRule_260 : decode cX4_addRule 260 = .ok (.iload 8, 2) := by decide +kernel
theorem dX4_addRule_262 : decode cX4_addRule 262 = .ok (.iload_n 1, 1) := by decide +kernel
theorem dX4_addRule_263 : decode cX4_addRule 263 = .ok (.if_icmp .le 25, 3) := by decide +kernel
theorem dX4_addRule_266 : decode cX4_addRule 266 = .ok (.aload_n 0, 1) := by decide +kernel
theorem dX4_addRule_267 : decode cX4_addRule 267 = .ok (.getfield 25, 3) := by decide +kernel
theorem dX4_addRule_270 : decode cX4_addRule 270 = .ok (.iload 8, 2) := by decide +kernel
theorem dX4_addRule_272 : decode cX4_addRule 272 = .ok (.aload_n 0, 1) := by decide +kernel
theorem dX4_addRule_273 : decode cX4_addRule 273 = .ok (.getfield 25, 3) := by decide +kernel
theorem dX4_addRule_276 : decode cX4_addRule 276 = .ok (.iload 8, 2) := by decide +kernel
theorem dX4_addRule_278 : decode cX4_addRule 278 = .ok (.iconst 1, 1) := by decide +kernel
theorem dX4_addRule_279 : decode cX4_addRule 279 = .ok (.isub, 1) := by decide +kernel
theorem dX4_addRule_280 : decode cX4_addRule 280 = .ok (.iaload, 1) := by decide +kernel
theorem dX4_addRule_281 : decode cX4_addRule 281 = .ok (.iastore, 1) := by decide +kernel
theorem dX4_addRule_282 : decode cX4_addRule 282 = .ok (.iinc 8 (-1), 3) := by decide +kernel
theorem dX4_addRule_285 : decode cX4_addRule 285 = .ok (.goto (-25), 3) := by decide +kernel
theorem dX4_addRule_288 : decode cX4_addRule 288 = .ok (.aload_n 0, 1) := by decide +kernel
theorem dX4_addRule_289 : decode cX4_addRule 289 = .ok (.getfield 25, 3) := by decide +kernel
theorem dX4_addRule_292 : decode cX4_addRule 292 = .ok (.iload_n 1, 1) := by decide +kernel
theorem dX4_addRule_293 : decode cX4_addRule 293 = .ok (.iload 7, 2) := by decide +kernel
theorem dX4_addRule_295 : decode cX4_addRule 295 = .ok (.iastore, 1) := by decide +kernel
theorem dX4_addRule_296 : decode cX4_addRule 296 = .ok (.aload_n 0, 1) := by decide +kernel
theorem dX4_addRule_297 : decode cX4_addRule 297 = .ok (.dup, 1) := by decide +kernel
theorem dX4_addRule_298 : decode cX4_addRule 298 = .ok (.getfield 79, 3) := by decide +kernel
theorem dX4_addRule_301 : decode cX4_addRule 301 = .ok (.iconst 1, 1) := by decide +kernel
theorem dX4_addRule_302 : decode cX4_addRule 302 = .ok (.iadd, 1) := by decide +kernel
theorem dX4_addRule_303 : decode cX4_addRule 303 = .ok (.putfield 79, 3) := by decide +kernel
theorem dX4_addRule_306 : decode cX4_addRule 306 = .ok (.aload_n 0, 1) := by decide +kernel
theorem dX4_addRule_307 : decode cX4_addRule 307 = .ok (.dup, 1) := by decide +kernel
theorem dX4_addRule_308 : decode cX4_addRule 308 = .ok (.getfield 127, 3) := by decide +kernel
theorem dX4_addRule_311 : decode cX4_addRule 311 = .ok (.iconst 1, 1) := by decide +kernel
theorem dX4_addRule_312 : decode cX4_addRule 312 = .ok (.iadd, 1) := by decide +kernel
theorem dX4_addRule_313 : decode cX4_addRule 313 = .ok (.putfield 127, 3) := by decide +kernel
theorem dX4_addRule_316 : decode cX4_addRule 316 = .ok (.aload_n 0, 1) := by decide +kernel
theorem dX4_addRule_317 : decode cX4_addRule 317 = .ok (.getfield 127, 3) := by decide +kernel
theorem dX4_addRule_320 : decode cX4_addRule 320 = .ok (.iconst 1, 1) := by decide +kernel
theorem dX4_addRule_321 : decode cX4_addRule 321 = .ok (.isub, 1) := by decide +kernel
theorem dX4_addRule_322 : decode cX4_addRule 322 = .ok (.ireturn, 1) := by decide +kernel
theorem dX4_removeRule_0 : decode cX4_removeRule 0 = .ok (.aload_n 0, 1) := by decide +kernel
theorem dX4_removeRule_1 : decode cX4_removeRule 1 = .ok (.iconst 0, 1) := by decide +kernel
theorem dX4_removeRule_2 : decode cX4_removeRule 2 = .ok (.putfield 68, 3) := by decide +kernel
theorem dX4_removeRule_5 : decode cX4_removeRule 5 = .ok (.aload_n 0, 1) := by decide +kernel
theorem dX4_removeRule_6 : decode cX4_removeRule 6 = .ok (.iload_n 1, 1) := by decide +kernel
theorem dX4_removeRule_7 : decode cX4_removeRule 7 = .ok (.invokevirtual 82, 3) := by decide +kernel
theorem dX4_removeRule_10 : decode cX4_removeRule 10 = .ok (.istore_n 2, 1) := by decide +kernel
theorem dX4_removeRule_11 : decode cX4_removeRule 11 = .ok (.iload_n 2, 1) := by decide +kernel
theorem dX4_removeRule_12 : decode cX4_removeRule 12 = .ok (.iconst (-1), 1) := by decide +kernel
theorem dX4_removeRule_13 : decode cX4_removeRule 13 = .ok (.if_icmp .ne 9, 3) := by decide +kernel
theorem dX4_removeRule_16 : decode cX4_removeRule 16 = .ok (.aload_n 0, 1) := by decide +kernel
theorem dX4_removeRule_17 : decode cX4_removeRule 17 = .ok (.iconst 1, 1) := by decide +kernel
theorem dX4_removeRule_18 : decode cX4_removeRule 18 = .ok (.invokevirtual 90, 3) := by decide +kernel
theorem dX4_removeRule_21 : decode cX4_removeRule 21 = .ok (.ireturn, 1) := by decide +kernel
theorem dX4_removeRule_22 : decode cX4_removeRule 22 = .ok (.aload_n 0, 1) := by decide +kernel
theorem dX4_removeRule_23 : decode cX4_removeRule 23 = .ok (.invokevirtual 130, 3) := by decide +kernel
theorem dX4_removeRule_26 : decode cX4_removeRule 26 = .ok (.pop, 1) := by decide +kernel
theorem dX4_removeRule_27 : decode cX4_removeRule 27 = .ok (.aload_n 0, 1) := by decide +kernel
theorem dX4_removeRule_28 : decode cX4_removeRule 28 = .ok (.getfield 28, 3) := by decide +kernel
theorem dX4_removeRule_31 : decode cX4_removeRule 31 = .ok (.aload_n 0, 1) := by decide +kernel
theorem dX4_removeRule_32 : decode cX4_removeRule 32 = .ok (.getfield 25, 3) := by decide +kernel
theorem dX4_removeRule_35 : decode cX4_removeRule 35 = .ok (.iload_n 2, 1) := by decide +kernel
theorem dX4_removeRule_36 : decode cX4_removeRule 36 = .ok (.iaload, 1) := by decide +kernel
theorem dX4_removeRule_37 : decode cX4_removeRule 37 = .ok (.iconst 0, 1) := by decide +kernel
theorem dX4_removeRule_38 : decode cX4_removeRule 38 = .ok (.bastore, 1) := by decide +kernel
theorem dX4_removeRule_39 : decode cX4_removeRule 39 = .ok (.aload_n 0, 1) := by decide +kernel
theorem dX4_removeRule_40 : decode cX4_removeRule 40 = .ok (.dup, 1) := by decide +kernel
theorem dX4_removeRule_41 : decode cX4_removeRule 41 = .ok (.getfield 79, 3) := by decide +kernel
theorem dX4_removeRule_44 : decode cX4_removeRule 44 = .ok (.iconst 1, 1) := by decide +kernel
theorem dX4_removeRule_45 : decode cX4_removeRule 45 = .ok (.isub, 1) := by decide +kernel
theorem dX4_removeRule_46 : decode cX4_removeRule 46 = .ok (.putfield 79, 3) := by decide +kernel
theorem dX4_removeRule_49 : decode cX4_removeRule 49 = .ok (.iload_n 2, 1) := by decide +kernel
theorem dX4_removeRule_50 : decode cX4_removeRule 50 = .ok (.istore_n 3, 1) := by decide +kernel
theorem dX4_removeRule_51 : decode cX4_removeRule 51 = .ok (.iload_n 3, 1) := by decide +kernel
theorem dX4_removeRule_52 : decode cX4_removeRule 52 = .ok (.aload_n 0, 1) := by decide +kernel
theorem dX4_removeRule_53 : decode cX4_removeRule 53 = .ok (.getfield 79, 3) := by decide +kernel
theorem dX4_removeRule_56 : decode cX4_removeRule 56 = .ok (.if_icmp .ge 23, 3) := by decide +kernel
theorem dX4_removeRule_59 : decode cX4_removeRule 59 = .ok (.aload_n 0, 1) := by decide +kernel
theorem dX4_removeRule_60 : decode cX4_removeRule 60 = .ok (.getfield 25, 3) := by decide +kernel
theorem dX4_removeRule_63 : decode cX4_removeRule 63 = .ok (.iload_n 3, 1) := by decide +kernel
theorem dX4_removeRule_64 : decode cX4_removeRule 64 = .ok (.aload_n 0, 1) := by decide +kernel
theorem dX4_removeRule_65 : decode cX4_removeRule 65 = .ok (.getfield 25, 3) := by decide +kernel
theorem dX4_removeRule_68 : decode cX4_removeRule 68 = .ok (.iload_n 3, 1) := by decide +kernel
theorem dX4_removeRule_69 : decode cX4_removeRule 69 = .ok (.iconst 1, 1) := by decide +kernel
theorem dX4_removeRule_70 : decode cX4_removeRule 70 = .ok (.iadd, 1) := by decide +kernel
theorem dX4_removeRule_71 : decode cX4_removeRule 71 = .ok (.iaload, 1) := by decide +kernel
theorem dX4_removeRule_72 : decode cX4_removeRule 72 = .ok (.iastore, 1) := by decide +kernel
theorem dX4_removeRule_73 : decode cX4_removeRule 73 = .ok (.iinc 3 1, 3) := by decide +kernel
theorem dX4_removeRule_76 : decode cX4_removeRule 76 = .ok (.goto (-25), 3) := by decide +kernel
theorem dX4_removeRule_79 : decode cX4_removeRule 79 = .ok (.aload_n 0, 1) := by decide +kernel
theorem dX4_removeRule_80 : decode cX4_removeRule 80 = .ok (.iconst 1, 1) := by decide +kernel
theorem dX4_removeRule_81 : decode cX4_removeRule 81 = .ok (.aload_n 0, 1) := by decide +kernel
theorem dX4_removeRule_82 : decode cX4_removeRule 82 = .ok (.getfield 25, 3) := by decide +kernel
theorem dX4_removeRule_85 : decode cX4_removeRule 85 = .ok (.aload_n 0, 1) := by decide +kernel
theorem dX4_removeRule_86 : decode cX4_removeRule 86 = .ok (.getfield 79, 3) := by decide +kernel
theorem dX4_removeRule_89 : decode cX4_removeRule 89 = .ok (.invokevirtual 119, 3) := by decide +kernel
theorem dX4_removeRule_92 : decode cX4_removeRule 92 = .ok (.aload_n 0, 1) := by decide +kernel
theorem dX4_removeRule_93 : decode cX4_removeRule 93 = .ok (.invokevirtual 134, 3) := by decide +kernel
theorem dX4_removeRule_96 : decode cX4_removeRule 96 = .ok (.ireturn, 1) := by decide +kernel
theorem dX4_setLastDay_0 : decode cX4_setLastDay 0 = .ok (.aload_n 0, 1) := by decide +kernel
theorem dX4_setLastDay_1 : decode cX4_setLastDay 1 = .ok (.iload_n 1, 1) := by decide +kernel
theorem dX4_setLastDay_2 : decode cX4_setLastDay 2 = .ok (.invokevirtual 137, 3) := by decide +kernel
theorem dX4_setLastDay_5 : decode cX4_setLastDay 5 = .ok (.istore_n 3, 1) := by decide +kernel
theorem dX4_setLastDay_6 : decode cX4_setLastDay 6 = .ok (.aload_n 0, 1) := by decide +kernel
theorem dX4_setLastDay_7 : decode cX4_setLastDay 7 = .ok (.getfield 68, 3) := by decide +kernel
theorem dX4_setLastDay_10 : decode cX4_setLastDay 10 = .ok (.ifCond .le 5, 3) := by decide +kernel
theorem dX4_setLastDay_13 : decode cX4_setLastDay 13 = .ok (.iconst 0, 1) := by decide +kernel
theorem dX4_setLastDay_14 : decode cX4_setLastDay 14 = .ok (.ireturn, 1) := by decide +kernel
theorem dX4_setLastDay_15 : decode cX4_setLastDay 15 = .ok (.iload_n 2, 1) := by decide +kernel
theorem dX4_setLastDay_16 : decode cX4_setLastDay 16 = .ok (.iconst (-1), 1) := by decide +kernel
theorem dX4_setLastDay_17 : decode cX4_setLastDay 17 = .ok (.if_icmp .eq 23, 3) := by decide +kernel
theorem dX4_setLastDay_20 : decode cX4_setLastDay 20 = .ok (.iload_n 2, 1) := by decide +kernel
theorem dX4_setLastDay_21 : decode cX4_setLastDay 21 = .ok (.aload_n 0, 1) := by decide +kernel
theorem dX4_setLastDay_22 : decode cX4_setLastDay 22 = .ok (.getfield 110, 3) := by decide +kernel
theorem dX4_setLastDay_25 : decode cX4_setLastDay 25 = .ok (.sipush 999, 3) := by decide +kernel
theorem dX4_setLastDay_28 : decode cX4_setLastDay 28 = .ok (.invokestatic 75, 3) := by decide +kernel
theorem dX4_setLastDay_31 : decode cX4_setLastDay 31 = .ok (.ifCond .ne 9, 3) := by decide +kernel
theorem dX4_setLastDay_34 : decode cX4_setLastDay 34 = .ok (.aload_n 0, 1) := by decide +kernel
theorem dX4_setLastDay_35 : decode cX4_setLastDay 35 = .ok (.iconst 2, 1) := by decide +kernel
theorem dX4_setLastDay_36 : decode cX4_setLastDay 36 = .ok (.invokevirtual 90, 3) := by decide +kernel
theorem dX4_setLastDay_39 : decode cX4_setLastDay 39 = .ok (.ireturn, 1) := by decide +kernel
theorem dX4_setLastDay_40 : decode cX4_setLastDay 40 = .ok (.aload_n 0, 1) := by decide +kernel
theorem dX4_setLastDay_41 : decode cX4_setLastDay 41 = .ok (.getfield 44, 3) := by decide +kernel
theorem dX4_setLastDay_44 : decode cX4_setLastDay 44 = .ok (.iload_n 3, 1) := by decide +kernel
theorem dX4_setLastDay_45 : decode cX4_setLastDay 45 = .ok (.iaload, 1) := by decide +kernel
theorem dX4_setLastDay_46 : decode cX4_setLastDay 46 = .ok (.istore 4, 2) := by decide +kernel
theorem dX4_setLastDay_48 : decode cX4_setLastDay 48 = .ok (.aload_n 0, 1) := by decide +kernel
theorem dX4_setLastDay_49 : decode cX4_setLastDay 49 = .ok (.getfield 44, 3) := by decide +kernel
theorem dX4_setLastDay_52 : decode cX4_setLastDay 52 = .ok (.iload_n 3, 1) := by decide +kernel
theorem dX4_setLastDay_53 : decode cX4_setLastDay 53 = .ok (.iload_n 2, 1) := by decide +kernel
theorem dX4_setLastDay_54 : decode cX4_setLastDay 54 = .ok (.iastore, 1) := by decide +kernel
theorem dX4_setLastDay_55 : decode cX4_setLastDay 55 = .ok (.iload 4, 2) := by decide +kernel
theorem dX4_setLastDay_57 : decode cX4_setLastDay 57 = .ok (.ireturn, 1) := by decide +kernel
theorem dX4_rules_0 : decode cX4_rules 0 = .ok (.aload_n 0, 1) := by decide +kernel
theorem dX4_rules_1 : decode cX4_rules 1 = .ok (.iconst 0, 1) := by decide +kernel
theorem dX4_rules_2 : decode cX4_rules 2 = .ok (.putfield 68, 3) := by decide +kernel
theorem dX4_rules_5 : decode cX4_rules 5 = .ok (.aload_n 0, 1) := by decide +kernel
theorem dX4_rules_6 : decode cX4_rules 6 = .ok (.getfield 79, 3) := by decide +kernel
theorem dX4_rules_9 : decode cX4_rules 9 = .ok (.ireturn, 1) := by decide +kernel
theorem dX4_ruleAt_0 : decode cX4_ruleAt 0 = .ok (.aload_n 0, 1) := by decide +kernel
theorem dX4_ruleAt_1 : decode cX4_ruleAt 1 = .ok (.iconst 0, 1) := by decide +kernel
theorem dX4_ruleAt_2 : decode cX4_ruleAt 2 = .ok (.putfield 68, 3) := by decide +kernel
theorem dX4_ruleAt_5 : decode cX4_ruleAt 5 = .ok (.iload_n 1, 1) := by decide +kernel
theorem dX4_ruleAt_6 : decode cX4_ruleAt 6 = .ok (.iconst 0, 1) := by decide +kernel
theorem dX4_ruleAt_7 : decode cX4_ruleAt 7 = .ok (.aload_n 0, 1) := by decide +kernel
theorem dX4_ruleAt_8 : decode cX4_ruleAt 8 = .ok (.getfield 79, 3) := by decide +kernel
theorem dX4_ruleAt_11 : decode cX4_ruleAt 11 = .ok (.iconst 1, 1) := by decide +kernel
theorem dX4_ruleAt_12 : decode cX4_ruleAt 12 = .ok (.isub, 1) := by decide +kernel
theorem dX4_ruleAt_13 : decode cX4_ruleAt 13 = .ok (.invokestatic 75, 3) := by decide +kernel
theorem dX4_ruleAt_16 : decode cX4_ruleAt 16 = .ok (.ifCond .eq 17, 3) := by decide +kernel
theorem dX4_ruleAt_19 : decode cX4_ruleAt 19 = .ok (.aload_n 0, 1) := by decide +kernel
theorem dX4_ruleAt_20 : decode cX4_ruleAt 20 = .ok (.getfield 32, 3) := by decide +kernel
theorem dX4_ruleAt_23 : decode cX4_ruleAt 23 = .ok (.aload_n 0, 1) := by decide +kernel
theorem dX4_ruleAt_24 : decode cX4_ruleAt 24 = .ok (.getfield 25, 3) := by decide +kernel
theorem dX4_ruleAt_27 : decode cX4_ruleAt 27 = .ok (.iload_n 1, 1) := by decide +kernel
theorem dX4_ruleAt_28 : decode cX4_ruleAt 28 = .ok (.iaload, 1) := by decide +kernel
theorem dX4_ruleAt_29 : decode cX4_ruleAt 29 = .ok (.iaload, 1) := by decide +kernel
theorem dX4_ruleAt_30 : decode cX4_ruleAt 30 = .ok (.goto 8, 3) := by decide +kernel
theorem dX4_ruleAt_33 : decode cX4_ruleAt 33 = .ok (.aload_n 0, 1) := by decide +kernel
theorem dX4_ruleAt_34 : decode cX4_ruleAt 34 = .ok (.iconst 1, 1) := by decide +kernel
theorem dX4_ruleAt_35 : decode cX4_ruleAt 35 = .ok (.invokevirtual 90, 3) := by decide +kernel
theorem dX4_ruleAt_38 : decode cX4_ruleAt 38 = .ok (.ireturn, 1) := by decide +kernel
theorem dX4_isInForce_0 : decode cX4_isInForce 0 = .ok (.aload_n 0, 1) := by decide +kernel
theorem dX4_isInForce_1 : decode cX4_isInForce 1 = .ok (.iload_n 1, 1) := by decide +kernel
theorem dX4_isInForce_2 : decode cX4_isInForce 2 = .ok (.invokevirtual 137, 3) := by decide +kernel
theorem dX4_isInForce_5 : decode cX4_isInForce 5 = .ok (.istore_n 2, 1) := by decide +kernel
theorem dX4_isInForce_6 : decode cX4_isInForce 6 = .ok (.aload_n 0, 1) := by decide +kernel
theorem dX4_isInForce_7 : decode cX4_isInForce 7 = .ok (.getfield 68, 3) := by decide +kernel
theorem dX4_isInForce_10 : decode cX4_isInForce 10 = .ok (.ifCond .ne 15, 3) := by decide +kernel
theorem dX4_isInForce_13 : decode cX4_isInForce 13 = .ok (.aload_n 0, 1) := by decide +kernel
theorem dX4_isInForce_14 : decode cX4_isInForce 14 = .ok (.iload_n 2, 1) := by decide +kernel
theorem dX4_isInForce_15 : decode cX4_isInForce 15 = .ok (.invokevirtual 113, 3) := by decide +kernel
theorem dX4_isInForce_18 : decode cX4_isInForce 18 = .ok (.ifCond .eq 7, 3) := by decide +kernel
theorem dX4_isInForce_21 : decode cX4_isInForce 21 = .ok (.iconst 1, 1) := by decide +kernel
theorem dX4_isInForce_22 : decode cX4_isInForce 22 = .ok (.goto 4, 3) := by decide +kernel
theorem dX4_isInForce_25 : decode cX4_isInForce 25 = .ok (.iconst 0, 1) := by decide +kernel
theorem dX4_isInForce_26 : decode cX4_isInForce 26 = .ok (.ireturn, 1) := by decide +kernel
theorem dX4_expiring_0 : decode cX4_expiring 0 = .ok (.aload_n 0, 1) := by decide +kernel
theorem dX4_expiring_1 : decode cX4_expiring 1 = .ok (.iconst 0, 1) := by decide +kernel
theorem dX4_expiring_2 : decode cX4_expiring 2 = .ok (.putfield 68, 3) := by decide +kernel
theorem dX4_expiring_5 : decode cX4_expiring 5 = .ok (.iload_n 1, 1) := by decide +kernel
theorem dX4_expiring_6 : decode cX4_expiring 6 = .ok (.iconst 0, 1) := by decide +kernel
theorem dX4_expiring_7 : decode cX4_expiring 7 = .ok (.iconst 5, 1) := by decide +kernel
theorem dX4_expiring_8 : decode cX4_expiring 8 = .ok (.invokestatic 75, 3) := by decide +kernel
theorem dX4_expiring_11 : decode cX4_expiring 11 = .ok (.ifCond .eq 13, 3) := by decide +kernel
theorem dX4_expiring_14 : decode cX4_expiring 14 = .ok (.iload_n 2, 1) := by decide +kernel
theorem dX4_expiring_15 : decode cX4_expiring 15 = .ok (.iconst 1, 1) := by decide +kernel
theorem dX4_expiring_16 : decode cX4_expiring 16 = .ok (.bipush 99, 2) := by decide +kernel
theorem dX4_expiring_18 : decode cX4_expiring 18 = .ok (.invokestatic 75, 3) := by decide +kernel
theorem dX4_expiring_21 : decode cX4_expiring 21 = .ok (.ifCond .ne 9, 3) := by decide +kernel
theorem dX4_expiring_24 : decode cX4_expiring 24 = .ok (.aload_n 0, 1) := by decide +kernel
theorem dX4_expiring_25 : decode cX4_expiring 25 = .ok (.iconst 1, 1) := by decide +kernel
theorem dX4_expiring_26 : decode cX4_expiring 26 = .ok (.invokevirtual 90, 3) := by decide +kernel
theorem dX4_expiring_29 : decode cX4_expiring 29 = .ok (.ireturn, 1) := by decide +kernel
theorem dX4_expiring_30 : decode cX4_expiring 30 = .ok (.iconst 0, 1) := by decide +kernel
theorem dX4_expiring_31 : decode cX4_expiring 31 = .ok (.istore_n 3, 1) := by decide +kernel
theorem dX4_expiring_32 : decode cX4_expiring 32 = .ok (.iconst 0, 1) := by decide +kernel
theorem dX4_expiring_33 : decode cX4_expiring 33 = .ok (.istore 4, 2) := by decide +kernel
theorem dX4_expiring_35 : decode cX4_expiring 35 = .ok (.iload 4, 2) := by decide +kernel
theorem dX4_expiring_37 : decode cX4_expiring 37 = .ok (.aload_n 0, 1) := by decide +kernel
theorem dX4_expiring_38 : decode cX4_expiring 38 = .ok (.getfield 79, 3) := by decide +kernel
theorem dX4_expiring_41 : decode cX4_expiring 41 = .ok (.if_icmp .ge 73, 3) := by decide +kernel
theorem dX4_expiring_44 : decode cX4_expiring 44 = .ok (.aload_n 0, 1) := by decide +kernel
theorem dX4_expiring_45 : decode cX4_expiring 45 = .ok (.getfield 25, 3) := by decide +kernel
theorem dX4_expiring_48 : decode cX4_expiring 48 = .ok (.iload 4, 2) := by decide +kernel
theorem dX4_expiring_50 : decode cX4_expiring 50 = .ok (.iaload, 1) := by decide +kernel
theorem dX4_expiring_51 : decode cX4_expiring 51 = .ok (.istore 5, 2) := by decide +kernel
theorem dX4_expiring_53 : decode cX4_expiring 53 = .ok (.iload_n 3, 1) := by decide +kernel
theorem dX4_expiring_54 : decode cX4_expiring 54 = .ok (.aload_n 0, 1) := by decide +kernel
theorem dX4_expiring_55 : decode cX4_expiring 55 = .ok (.getfield 41, 3) := by decide +kernel
theorem dX4_expiring_58 : decode cX4_expiring 58 = .ok (.iload 5, 2) := by decide +kernel
theorem dX4_expiring_60 : decode cX4_expiring 60 = .ok (.iaload, 1) := by decide +kernel
theorem dX4_expiring_61 : decode cX4_expiring 61 = .ok (.iload_n 1, 1) := by decide +kernel
theorem dX4_expiring_62 : decode cX4_expiring 62 = .ok (.if_icmp .ne 43, 3) := by decide +kernel
theorem dX4_expiring_65 : decode cX4_expiring 65 = .ok (.aload_n 0, 1) := by decide +kernel
theorem dX4_expiring_66 : decode cX4_expiring 66 = .ok (.getfield 44, 3) := by decide +kernel
theorem dX4_expiring_69 : decode cX4_expiring 69 = .ok (.iload 5, 2) := by decide +kernel
theorem dX4_expiring_71 : decode cX4_expiring 71 = .ok (.iaload, 1) := by decide +kernel
theorem dX4_expiring_72 : decode cX4_expiring 72 = .ok (.iconst (-1), 1) := by decide +kernel
theorem dX4_expiring_73 : decode cX4_expiring 73 = .ok (.if_icmp .eq 32, 3) := by decide +kernel
theorem dX4_expiring_76 : decode cX4_expiring 76 = .ok (.aload_n 0, 1) := by decide +kernel
theorem dX4_expiring_77 : decode cX4_expiring 77 = .ok (.iload 5, 2) := by decide +kernel
theorem dX4_expiring_79 : decode cX4_expiring 79 = .ok (.invokevirtual 113, 3) := by decide +kernel
theorem dX4_expiring_82 : decode cX4_expiring 82 = .ok (.ifCond .eq 23, 3) := by decide +kernel
theorem dX4_expiring_85 : decode cX4_expiring 85 = .ok (.aload_n 0, 1) := by decide +kernel
theorem dX4_expiring_86 : decode cX4_expiring 86 = .ok (.getfield 110, 3) := by decide +kernel
theorem dX4_expiring_89 : decode cX4_expiring 89 = .ok (.iload_n 2, 1) := by decide +kernel
theorem dX4_expiring_90 : decode cX4_expiring 90 = .ok (.iadd, 1) := by decide +kernel
theorem dX4_expiring_91 : decode cX4_expiring 91 = .ok (.aload_n 0, 1) := by decide +kernel
theorem dX4_expiring_92 : decode cX4_expiring 92 = .ok (.getfield 44, 3) := by decide +kernel
theorem dX4_expiring_95 : decode cX4_expiring 95 = .ok (.iload 5, 2) := by decide +kernel
theorem dX4_expiring_97 : decode cX4_expiring 97 = .ok (.iaload, 1) := by decide +kernel
theorem dX4_expiring_98 : decode cX4_expiring 98 = .ok (.if_icmp .le 7, 3) := by decide +kernel
theorem dX4_expiring_101 : decode cX4_expiring 101 = .ok (.iconst 1, 1) := by decide +kernel
theorem dX4_expiring_102 : decode cX4_expiring 102 = .ok (.goto 4, 3) := by decide +kernel
theorem dX4_expiring_105 : decode cX4_expiring 105 = .ok (.iconst 0, 1) := by decide +kernel
theorem dX4_expiring_106 : decode cX4_expiring 106 = .ok (.iadd, 1) := by decide +kernel
theorem dX4_expiring_107 : decode cX4_expiring 107 = .ok (.istore_n 3, 1) := by decide +kernel
theorem dX4_expiring_108 : decode cX4_expiring 108 = .ok (.iinc 4 1, 3) := by decide +kernel
theorem dX4_expiring_111 : decode cX4_expiring 111 = .ok (.goto (-76), 3) := by decide +kernel
theorem dX4_expiring_114 : decode cX4_expiring 114 = .ok (.iload_n 3, 1) := by decide +kernel
theorem dX4_expiring_115 : decode cX4_expiring 115 = .ok (.ireturn, 1) := by decide +kernel
theorem dX4_isPacket_0 : decode cX4_isPacket 0 = .ok (.iload_n 0, 1) := by decide +kernel
theorem dX4_isPacket_1 : decode cX4_isPacket 1 = .ok (.iconst 0, 1) := by decide +kernel
theorem dX4_isPacket_2 : decode cX4_isPacket 2 = .ok (.bipush 31, 2) := by decide +kernel
theorem dX4_isPacket_4 : decode cX4_isPacket 4 = .ok (.invokestatic 75, 3) := by decide +kernel
theorem dX4_isPacket_7 : decode cX4_isPacket 7 = .ok (.ifCond .eq 27, 3) := by decide +kernel
theorem dX4_isPacket_10 : decode cX4_isPacket 10 = .ok (.iload_n 1, 1) := by decide +kernel
theorem dX4_isPacket_11 : decode cX4_isPacket 11 = .ok (.iconst 0, 1) := by decide +kernel
theorem dX4_isPacket_12 : decode cX4_isPacket 12 = .ok (.bipush 31, 2) := by decide +kernel
theorem dX4_isPacket_14 : decode cX4_isPacket 14 = .ok (.invokestatic 75, 3) := by decide +kernel
theorem dX4_isPacket_17 : decode cX4_isPacket 17 = .ok (.ifCond .eq 17, 3) := by decide +kernel
theorem dX4_isPacket_20 : decode cX4_isPacket 20 = .ok (.iload_n 2, 1) := by decide +kernel
theorem dX4_isPacket_21 : decode cX4_isPacket 21 = .ok (.iconst 0, 1) := by decide +kernel
theorem dX4_isPacket_22 : decode cX4_isPacket 22 = .ok (.bipush 31, 2) := by decide +kernel
theorem dX4_isPacket_24 : decode cX4_isPacket 24 = .ok (.invokestatic 75, 3) := by decide +kernel
theorem dX4_isPacket_27 : decode cX4_isPacket 27 = .ok (.ifCond .eq 7, 3) := by decide +kernel
theorem dX4_isPacket_30 : decode cX4_isPacket 30 = .ok (.iconst 1, 1) := by decide +kernel
theorem dX4_isPacket_31 : decode cX4_isPacket 31 = .ok (.goto 4, 3) := by decide +kernel
theorem dX4_isPacket_34 : decode cX4_isPacket 34 = .ok (.iconst 0, 1) := by decide +kernel
theorem dX4_isPacket_35 : decode cX4_isPacket 35 = .ok (.ireturn, 1) := by decide +kernel
theorem dX4_deciding_0 : decode cX4_deciding 0 = .ok (.aload_n 0, 1) := by decide +kernel
theorem dX4_deciding_1 : decode cX4_deciding 1 = .ok (.getfield 62, 3) := by decide +kernel
theorem dX4_deciding_4 : decode cX4_deciding 4 = .ok (.iload_n 1, 1) := by decide +kernel
theorem dX4_deciding_5 : decode cX4_deciding 5 = .ok (.iaload, 1) := by decide +kernel
theorem dX4_deciding_6 : decode cX4_deciding 6 = .ok (.aload_n 0, 1) := by decide +kernel
theorem dX4_deciding_7 : decode cX4_deciding 7 = .ok (.getfield 62, 3) := by decide +kernel
theorem dX4_deciding_10 : decode cX4_deciding 10 = .ok (.bipush 32, 2) := by decide +kernel
theorem dX4_deciding_12 : decode cX4_deciding 12 = .ok (.iload_n 2, 1) := by decide +kernel
theorem dX4_deciding_13 : decode cX4_deciding 13 = .ok (.iadd, 1) := by decide +kernel
theorem dX4_deciding_14 : decode cX4_deciding 14 = .ok (.iaload, 1) := by decide +kernel
theorem dX4_deciding_15 : decode cX4_deciding 15 = .ok (.iand, 1) := by decide +kernel
theorem dX4_deciding_16 : decode cX4_deciding 16 = .ok (.aload_n 0, 1) := by decide +kernel
theorem dX4_deciding_17 : decode cX4_deciding 17 = .ok (.getfield 62, 3) := by decide +kernel
theorem dX4_deciding_20 : decode cX4_deciding 20 = .ok (.bipush 64, 2) := by decide +kernel
theorem dX4_deciding_22 : decode cX4_deciding 22 = .ok (.iload_n 3, 1) := by decide +kernel
theorem dX4_deciding_23 : decode cX4_deciding 23 = .ok (.iadd, 1) := by decide +kernel
theorem dX4_deciding_24 : decode cX4_deciding 24 = .ok (.iaload, 1) := by decide +kernel
theorem dX4_deciding_25 : decode cX4_deciding 25 = .ok (.iand, 1) := by decide +kernel
theorem dX4_deciding_26 : decode cX4_deciding 26 = .ok (.istore 4, 2) := by decide +kernel
theorem dX4_deciding_28 : decode cX4_deciding 28 = .ok (.iconst 0, 1) := by decide +kernel
theorem dX4_deciding_29 : decode cX4_deciding 29 = .ok (.istore 5, 2) := by decide +kernel
theorem dX4_deciding_31 : decode cX4_deciding 31 = .ok (.iload 5, 2) := by decide +kernel
theorem dX4_deciding_33 : decode cX4_deciding 33 = .ok (.aload_n 0, 1) := by decide +kernel
theorem dX4_deciding_34 : decode cX4_deciding 34 = .ok (.getfield 79, 3) := by decide +kernel
theorem dX4_deciding_37 : decode cX4_deciding 37 = .ok (.if_icmp .ge 23, 3) := by decide +kernel
theorem dX4_deciding_40 : decode cX4_deciding 40 = .ok (.iload 4, 2) := by decide +kernel
theorem dX4_deciding_42 : decode cX4_deciding 42 = .ok (.iload 5, 2) := by decide +kernel
theorem dX4_deciding_44 : decode cX4_deciding 44 = .ok (.ishr, 1) := by decide +kernel
theorem dX4_deciding_45 : decode cX4_deciding 45 = .ok (.iconst 1, 1) := by decide +kernel
theorem dX4_deciding_46 : decode cX4_deciding 46 = .ok (.iand, 1) := by decide +kernel
theorem dX4_deciding_47 : decode cX4_deciding 47 = .ok (.iconst 1, 1) := by decide +kernel
theorem dX4_deciding_48 : decode cX4_deciding 48 = .ok (.if_icmp .ne 6, 3) := by decide +kernel
theorem dX4_deciding_51 : decode cX4_deciding 51 = .ok (.iload 5, 2) := by decide +kernel
theorem dX4_deciding_53 : decode cX4_deciding 53 = .ok (.ireturn, 1) := by decide +kernel
theorem dX4_deciding_54 : decode cX4_deciding 54 = .ok (.iinc 5 1, 3) := by decide +kernel
theorem dX4_deciding_57 : decode cX4_deciding 57 = .ok (.goto (-26), 3) := by decide +kernel
theorem dX4_deciding_60 : decode cX4_deciding 60 = .ok (.iconst (-1), 1) := by decide +kernel
theorem dX4_deciding_61 : decode cX4_deciding 61 = .ok (.ireturn, 1) := by decide +kernel
theorem dX4_packet_0 : decode cX4_packet 0 = .ok (.aload_n 0, 1) := by decide +kernel
theorem dX4_packet_1 : decode cX4_packet 1 = .ok (.iload_n 1, 1) := by decide +kernel
theorem dX4_packet_2 : decode cX4_packet 2 = .ok (.iload_n 2, 1) := by decide +kernel
theorem dX4_packet_3 : decode cX4_packet 3 = .ok (.iload_n 3, 1) := by decide +kernel
theorem dX4_packet_4 : decode cX4_packet 4 = .ok (.invokestatic 140, 3) := by decide +kernel
theorem dX4_packet_7 : decode cX4_packet 7 = .ok (.ifCond .eq 7, 3) := by decide +kernel
theorem dX4_packet_10 : decode cX4_packet 10 = .ok (.iconst 0, 1) := by decide +kernel
theorem dX4_packet_11 : decode cX4_packet 11 = .ok (.goto 4, 3) := by decide +kernel
theorem dX4_packet_14 : decode cX4_packet 14 = .ok (.iconst 1, 1) := by decide +kernel
theorem dX4_packet_15 : decode cX4_packet 15 = .ok (.putfield 68, 3) := by decide +kernel
theorem dX4_packet_18 : decode cX4_packet 18 = .ok (.aload_n 0, 1) := by decide +kernel
theorem dX4_packet_19 : decode cX4_packet 19 = .ok (.getfield 68, 3) := by decide +kernel
theorem dX4_packet_22 : decode cX4_packet 22 = .ok (.ifCond .le 5, 3) := by decide +kernel
theorem dX4_packet_25 : decode cX4_packet 25 = .ok (.iconst 0, 1) := by decide +kernel
theorem dX4_packet_26 : decode cX4_packet 26 = .ok (.ireturn, 1) := by decide +kernel
theorem dX4_packet_27 : decode cX4_packet 27 = .ok (.aload_n 0, 1) := by decide +kernel
theorem dX4_packet_28 : decode cX4_packet 28 = .ok (.invokevirtual 130, 3) := by decide +kernel
theorem dX4_packet_31 : decode cX4_packet 31 = .ok (.pop, 1) := by decide +kernel
theorem dX4_packet_32 : decode cX4_packet 32 = .ok (.aload_n 0, 1) := by decide +kernel
theorem dX4_packet_33 : decode cX4_packet 33 = .ok (.iload_n 1, 1) := by decide +kernel
theorem dX4_packet_34 : decode cX4_packet 34 = .ok (.iload_n 2, 1) := by decide +kernel
theorem dX4_packet_35 : decode cX4_packet 35 = .ok (.iload_n 3, 1) := by decide +kernel
theorem dX4_packet_36 : decode cX4_packet 36 = .ok (.invokevirtual 143, 3) := by decide +kernel
theorem dX4_packet_39 : decode cX4_packet 39 = .ok (.istore 4, 2) := by decide +kernel
theorem dX4_packet_41 : decode cX4_packet 41 = .ok (.iload 4, 2) := by decide +kernel
theorem dX4_packet_43 : decode cX4_packet 43 = .ok (.iconst (-1), 1) := by decide +kernel
theorem dX4_packet_44 : decode cX4_packet 44 = .ok (.if_icmp .ne 6, 3) := by decide +kernel
theorem dX4_packet_47 : decode cX4_packet 47 = .ok (.bipush 100, 2) := by decide +kernel
theorem dX4_packet_49 : decode cX4_packet 49 = .ok (.ireturn, 1) := by decide +kernel
theorem dX4_packet_50 : decode cX4_packet 50 = .ok (.aload_n 0, 1) := by decide +kernel
theorem dX4_packet_51 : decode cX4_packet 51 = .ok (.getfield 25, 3) := by decide +kernel
theorem dX4_packet_54 : decode cX4_packet 54 = .ok (.iload 4, 2) := by decide +kernel
theorem dX4_packet_56 : decode cX4_packet 56 = .ok (.iaload, 1) := by decide +kernel
theorem dX4_packet_57 : decode cX4_packet 57 = .ok (.istore 5, 2) := by decide +kernel
theorem dX4_packet_59 : decode cX4_packet 59 = .ok (.aload_n 0, 1) := by decide +kernel
theorem dX4_packet_60 : decode cX4_packet 60 = .ok (.getfield 47, 3) := by decide +kernel
theorem dX4_packet_63 : decode cX4_packet 63 = .ok (.iload 5, 2) := by decide +kernel
theorem dX4_packet_65 : decode cX4_packet 65 = .ok (.dup2, 1) := by decide +kernel
theorem dX4_packet_66 : decode cX4_packet 66 = .ok (.iaload, 1) := by decide +kernel
theorem dX4_packet_67 : decode cX4_packet 67 = .ok (.iconst 1, 1) := by decide +kernel
theorem dX4_packet_68 : decode cX4_packet 68 = .ok (.iadd, 1) := by decide +kernel
theorem dX4_packet_69 : decode cX4_packet 69 = .ok (.iastore, 1) := by decide +kernel
theorem dX4_packet_70 : decode cX4_packet 70 = .ok (.aload_n 0, 1) := by decide +kernel
theorem dX4_packet_71 : decode cX4_packet 71 = .ok (.getfield 50, 3) := by decide +kernel
theorem dX4_packet_74 : decode cX4_packet 74 = .ok (.iload 5, 2) := by decide +kernel
theorem dX4_packet_76 : decode cX4_packet 76 = .ok (.aload_n 0, 1) := by decide +kernel
theorem dX4_packet_77 : decode cX4_packet 77 = .ok (.getfield 110, 3) := by decide +kernel
theorem dX4_packet_80 : decode cX4_packet 80 = .ok (.iastore, 1) := by decide +kernel
theorem dX4_packet_81 : decode cX4_packet 81 = .ok (.aload_n 0, 1) := by decide +kernel
theorem dX4_packet_82 : decode cX4_packet 82 = .ok (.getfield 53, 3) := by decide +kernel
theorem dX4_packet_85 : decode cX4_packet 85 = .ok (.iload 5, 2) := by decide +kernel
theorem dX4_packet_87 : decode cX4_packet 87 = .ok (.dup2, 1) := by decide +kernel
theorem dX4_packet_88 : decode cX4_packet 88 = .ok (.iaload, 1) := by decide +kernel
theorem dX4_packet_89 : decode cX4_packet 89 = .ok (.aload_n 0, 1) := by decide +kernel
theorem dX4_packet_90 : decode cX4_packet 90 = .ok (.getfield 56, 3) := by decide +kernel
theorem dX4_packet_93 : decode cX4_packet 93 = .ok (.iload 5, 2) := by decide +kernel
theorem dX4_packet_95 : decode cX4_packet 95 = .ok (.iaload, 1) := by decide +kernel
theorem dX4_packet_96 : decode cX4_packet 96 = .ok (.aload_n 0, 1) := by decide +kernel
theorem dX4_packet_97 : decode cX4_packet 97 = .ok (.getfield 110, 3) := by decide +kernel
theorem dX4_packet_100 : decode cX4_packet 100 = .ok (.if_icmp .ne 7, 3) := by decide +kernel
theorem dX4_packet_103 : decode cX4_packet 103 = .ok (.iconst 0, 1) := by decide +kernel
theorem dX4_packet_104 : decode cX4_packet 104 = .ok (.goto 4, 3) := by decide +kernel
theorem dX4_packet_107 : decode cX4_packet 107 = .ok (.iconst 1, 1) := by decide +kernel
theorem dX4_packet_108 : decode cX4_packet 108 = .ok (.iadd, 1) := by decide +kernel
theorem dX4_packet_109 : decode cX4_packet 109 = .ok (.iastore, 1) := by decide +kernel
theorem dX4_packet_110 : decode cX4_packet 110 = .ok (.aload_n 0, 1) := by decide +kernel
theorem dX4_packet_111 : decode cX4_packet 111 = .ok (.getfield 56, 3) := by decide +kernel
theorem dX4_packet_114 : decode cX4_packet 114 = .ok (.iload 5, 2) := by decide +kernel
theorem dX4_packet_116 : decode cX4_packet 116 = .ok (.aload_n 0, 1) := by decide +kernel
theorem dX4_packet_117 : decode cX4_packet 117 = .ok (.getfield 110, 3) := by decide +kernel
theorem dX4_packet_120 : decode cX4_packet 120 = .ok (.iastore, 1) := by decide +kernel
theorem dX4_packet_121 : decode cX4_packet 121 = .ok (.aload_n 0, 1) := by decide +kernel
theorem dX4_packet_122 : decode cX4_packet 122 = .ok (.getfield 35, 3) := by decide +kernel
theorem dX4_packet_125 : decode cX4_packet 125 = .ok (.iload 5, 2) := by decide +kernel
theorem dX4_packet_127 : decode cX4_packet 127 = .ok (.baload, 1) := by decide +kernel
theorem dX4_packet_128 : decode cX4_packet 128 = .ok (.ifCond .eq 8, 3) := by decide +kernel
theorem dX4_packet_131 : decode cX4_packet 131 = .ok (.bipush 97, 2) := by decide +kernel
theorem dX4_packet_133 : decode cX4_packet 133 = .ok (.goto 5, 3) := by decide +kernel
theorem dX4_packet_136 : decode cX4_packet 136 = .ok (.bipush 100, 2) := by decide +kernel
theorem dX4_packet_138 : decode cX4_packet 138 = .ok (.ireturn, 1) := by decide +kernel
theorem dX4_decider_0 : decode cX4_decider 0 = .ok (.aload_n 0, 1) := by decide +kernel
theorem dX4_decider_1 : decode cX4_decider 1 = .ok (.iconst 0, 1) := by decide +kernel
theorem dX4_decider_2 : decode cX4_decider 2 = .ok (.putfield 68, 3) := by decide +kernel
theorem dX4_decider_5 : decode cX4_decider 5 = .ok (.iload_n 1, 1) := by decide +kernel
theorem dX4_decider_6 : decode cX4_decider 6 = .ok (.iload_n 2, 1) := by decide +kernel
theorem dX4_decider_7 : decode cX4_decider 7 = .ok (.iload_n 3, 1) := by decide +kernel
theorem dX4_decider_8 : decode cX4_decider 8 = .ok (.invokestatic 140, 3) := by decide +kernel
theorem dX4_decider_11 : decode cX4_decider 11 = .ok (.ifCond .ne 9, 3) := by decide +kernel
theorem dX4_decider_14 : decode cX4_decider 14 = .ok (.aload_n 0, 1) := by decide +kernel
theorem dX4_decider_15 : decode cX4_decider 15 = .ok (.iconst 1, 1) := by decide +kernel
theorem dX4_decider_16 : decode cX4_decider 16 = .ok (.invokevirtual 90, 3) := by decide +kernel
theorem dX4_decider_19 : decode cX4_decider 19 = .ok (.ireturn, 1) := by decide +kernel
theorem dX4_decider_20 : decode cX4_decider 20 = .ok (.aload_n 0, 1) := by decide +kernel
theorem dX4_decider_21 : decode cX4_decider 21 = .ok (.invokevirtual 130, 3) := by decide +kernel
theorem dX4_decider_24 : decode cX4_decider 24 = .ok (.pop, 1) := by decide +kernel
theorem dX4_decider_25 : decode cX4_decider 25 = .ok (.aload_n 0, 1) := by decide +kernel
theorem dX4_decider_26 : decode cX4_decider 26 = .ok (.iload_n 1, 1) := by decide +kernel
theorem dX4_decider_27 : decode cX4_decider 27 = .ok (.iload_n 2, 1) := by decide +kernel
theorem dX4_decider_28 : decode cX4_decider 28 = .ok (.iload_n 3, 1) := by decide +kernel
theorem dX4_decider_29 : decode cX4_decider 29 = .ok (.invokevirtual 143, 3) := by decide +kernel
theorem dX4_decider_32 : decode cX4_decider 32 = .ok (.istore 4, 2) := by decide +kernel
theorem dX4_decider_34 : decode cX4_decider 34 = .ok (.iload 4, 2) := by decide +kernel
theorem dX4_decider_36 : decode cX4_decider 36 = .ok (.iconst (-1), 1) := by decide +kernel
theorem dX4_decider_37 : decode cX4_decider 37 = .ok (.if_icmp .ne 7, 3) := by decide +kernel
theorem dX4_decider_40 : decode cX4_decider 40 = .ok (.iconst (-1), 1) := by decide +kernel
theorem dX4_decider_41 : decode cX4_decider 41 = .ok (.goto 15, 3) := by decide +kernel
theorem dX4_decider_44 : decode cX4_decider 44 = .ok (.aload_n 0, 1) := by decide +kernel
theorem dX4_decider_45 : decode cX4_decider 45 = .ok (.getfield 32, 3) := by decide +kernel
theorem dX4_decider_48 : decode cX4_decider 48 = .ok (.aload_n 0, 1) := by decide +kernel
theorem dX4_decider_49 : decode cX4_decider 49 = .ok (.getfield 25, 3) := by decide +kernel
theorem dX4_decider_52 : decode cX4_decider 52 = .ok (.iload 4, 2) := by decide +kernel
theorem dX4_decider_54 : decode cX4_decider 54 = .ok (.iaload, 1) := by decide +kernel
theorem dX4_decider_55 : decode cX4_decider 55 = .ok (.iaload, 1) := by decide +kernel
theorem dX4_decider_56 : decode cX4_decider 56 = .ok (.ireturn, 1) := by decide +kernel
theorem dX4_hits_0 : decode cX4_hits 0 = .ok (.aload_n 0, 1) := by decide +kernel
theorem dX4_hits_1 : decode cX4_hits 1 = .ok (.iload_n 1, 1) := by decide +kernel
theorem dX4_hits_2 : decode cX4_hits 2 = .ok (.invokevirtual 137, 3) := by decide +kernel
theorem dX4_hits_5 : decode cX4_hits 5 = .ok (.istore_n 2, 1) := by decide +kernel
theorem dX4_hits_6 : decode cX4_hits 6 = .ok (.aload_n 0, 1) := by decide +kernel
theorem dX4_hits_7 : decode cX4_hits 7 = .ok (.getfield 68, 3) := by decide +kernel
theorem dX4_hits_10 : decode cX4_hits 10 = .ok (.ifCond .le 7, 3) := by decide +kernel
theorem dX4_hits_13 : decode cX4_hits 13 = .ok (.iconst 0, 1) := by decide +kernel
theorem dX4_hits_14 : decode cX4_hits 14 = .ok (.goto 9, 3) := by decide +kernel
theorem dX4_hits_17 : decode cX4_hits 17 = .ok (.aload_n 0, 1) := by decide +kernel
theorem dX4_hits_18 : decode cX4_hits 18 = .ok (.getfield 47, 3) := by decide +kernel
theorem dX4_hits_21 : decode cX4_hits 21 = .ok (.iload_n 2, 1) := by decide +kernel
theorem dX4_hits_22 : decode cX4_hits 22 = .ok (.iaload, 1) := by decide +kernel
theorem dX4_hits_23 : decode cX4_hits 23 = .ok (.ireturn, 1) := by decide +kernel
theorem dX4_busyDays_0 : decode cX4_busyDays 0 = .ok (.aload_n 0, 1) := by decide +kernel
theorem dX4_busyDays_1 : decode cX4_busyDays 1 = .ok (.iload_n 1, 1) := by decide +kernel
theorem dX4_busyDays_2 : decode cX4_busyDays 2 = .ok (.invokevirtual 137, 3) := by decide +kernel
theorem dX4_busyDays_5 : decode cX4_busyDays 5 = .ok (.istore_n 2, 1) := by decide +kernel
theorem dX4_busyDays_6 : decode cX4_busyDays 6 = .ok (.aload_n 0, 1) := by decide +kernel
theorem dX4_busyDays_7 : decode cX4_busyDays 7 = .ok (.getfield 68, 3) := by decide +kernel
theorem dX4_busyDays_10 : decode cX4_busyDays 10 = .ok (.ifCond .le 7, 3) := by decide +kernel
theorem dX4_busyDays_13 : decode cX4_busyDays 13 = .ok (.iconst 0, 1) := by decide +kernel
theorem dX4_busyDays_14 : decode cX4_busyDays 14 = .ok (.goto 9, 3) := by decide +kernel
theorem dX4_busyDays_17 : decode cX4_busyDays 17 = .ok (.aload_n 0, 1) := by decide +kernel
theorem dX4_busyDays_18 : decode cX4_busyDays 18 = .ok (.getfield 53, 3) := by decide +kernel
theorem dX4_busyDays_21 : decode cX4_busyDays 21 = .ok (.iload_n 2, 1) := by decide +kernel
theorem dX4_busyDays_22 : decode cX4_busyDays 22 = .ok (.iaload, 1) := by decide +kernel
theorem dX4_busyDays_23 : decode cX4_busyDays 23 = .ok (.ireturn, 1) := by decide +kernel
theorem dX4_idleDays_0 : decode cX4_idleDays 0 = .ok (.aload_n 0, 1) := by decide +kernel
theorem dX4_idleDays_1 : decode cX4_idleDays 1 = .ok (.iload_n 1, 1) := by decide +kernel
theorem dX4_idleDays_2 : decode cX4_idleDays 2 = .ok (.invokevirtual 137, 3) := by decide +kernel
theorem dX4_idleDays_5 : decode cX4_idleDays 5 = .ok (.istore_n 2, 1) := by decide +kernel
theorem dX4_idleDays_6 : decode cX4_idleDays 6 = .ok (.aload_n 0, 1) := by decide +kernel
theorem dX4_idleDays_7 : decode cX4_idleDays 7 = .ok (.getfield 68, 3) := by decide +kernel
theorem dX4_idleDays_10 : decode cX4_idleDays 10 = .ok (.ifCond .le 7, 3) := by decide +kernel
theorem dX4_idleDays_13 : decode cX4_idleDays 13 = .ok (.iconst 0, 1) := by decide +kernel
theorem dX4_idleDays_14 : decode cX4_idleDays 14 = .ok (.goto 14, 3) := by decide +kernel
theorem dX4_idleDays_17 : decode cX4_idleDays 17 = .ok (.aload_n 0, 1) := by decide +kernel
theorem dX4_idleDays_18 : decode cX4_idleDays 18 = .ok (.getfield 110, 3) := by decide +kernel
theorem dX4_idleDays_21 : decode cX4_idleDays 21 = .ok (.aload_n 0, 1) := by decide +kernel
theorem dX4_idleDays_22 : decode cX4_idleDays 22 = .ok (.getfield 50, 3) := by decide +kernel
theorem dX4_idleDays_25 : decode cX4_idleDays 25 = .ok (.iload_n 2, 1) := by decide +kernel
theorem dX4_idleDays_26 : decode cX4_idleDays 26 = .ok (.iaload, 1) := by decide +kernel
theorem dX4_idleDays_27 : decode cX4_idleDays 27 = .ok (.isub, 1) := by decide +kernel
theorem dX4_idleDays_28 : decode cX4_idleDays 28 = .ok (.ireturn, 1) := by decide +kernel
theorem dX4_pass_0 : decode cX4_pass 0 = .ok (.aload_n 0, 1) := by decide +kernel
theorem dX4_pass_1 : decode cX4_pass 1 = .ok (.iconst 0, 1) := by decide +kernel
theorem dX4_pass_2 : decode cX4_pass 2 = .ok (.putfield 68, 3) := by decide +kernel
theorem dX4_pass_5 : decode cX4_pass 5 = .ok (.iload_n 1, 1) := by decide +kernel
theorem dX4_pass_6 : decode cX4_pass 6 = .ok (.iconst 1, 1) := by decide +kernel
theorem dX4_pass_7 : decode cX4_pass 7 = .ok (.bipush 99, 2) := by decide +kernel
theorem dX4_pass_9 : decode cX4_pass 9 = .ok (.invokestatic 75, 3) := by decide +kernel
theorem dX4_pass_12 : decode cX4_pass 12 = .ok (.ifCond .eq 15, 3) := by decide +kernel
theorem dX4_pass_15 : decode cX4_pass 15 = .ok (.aload_n 0, 1) := by decide +kernel
theorem dX4_pass_16 : decode cX4_pass 16 = .ok (.getfield 110, 3) := by decide +kernel
theorem dX4_pass_19 : decode cX4_pass 19 = .ok (.iload_n 1, 1) := by decide +kernel
theorem dX4_pass_20 : decode cX4_pass 20 = .ok (.iadd, 1) := by decide +kernel
theorem dX4_pass_21 : decode cX4_pass 21 = .ok (.sipush 999, 3) := by decide +kernel
theorem dX4_pass_24 : decode cX4_pass 24 = .ok (.if_icmp .le 9, 3) := by decide +kernel
theorem dX4_pass_27 : decode cX4_pass 27 = .ok (.aload_n 0, 1) := by decide +kernel
theorem dX4_pass_28 : decode cX4_pass 28 = .ok (.iconst 1, 1) := by decide +kernel
theorem dX4_pass_29 : decode cX4_pass 29 = .ok (.invokevirtual 90, 3) := by decide +kernel
theorem dX4_pass_32 : decode cX4_pass 32 = .ok (.ireturn, 1) := by decide +kernel
theorem dX4_pass_33 : decode cX4_pass 33 = .ok (.aload_n 0, 1) := by decide +kernel
theorem dX4_pass_34 : decode cX4_pass 34 = .ok (.dup, 1) := by decide +kernel
theorem dX4_pass_35 : decode cX4_pass 35 = .ok (.getfield 110, 3) := by decide +kernel
theorem dX4_pass_38 : decode cX4_pass 38 = .ok (.iload_n 1, 1) := by decide +kernel
theorem dX4_pass_39 : decode cX4_pass 39 = .ok (.iadd, 1) := by decide +kernel
theorem dX4_pass_40 : decode cX4_pass 40 = .ok (.putfield 110, 3) := by decide +kernel
theorem dX4_pass_43 : decode cX4_pass 43 = .ok (.aload_n 0, 1) := by decide +kernel
theorem dX4_pass_44 : decode cX4_pass 44 = .ok (.getfield 110, 3) := by decide +kernel
theorem dX4_pass_47 : decode cX4_pass 47 = .ok (.ireturn, 1) := by decide +kernel
theorem dX4_day_0 : decode cX4_day 0 = .ok (.aload_n 0, 1) := by decide +kernel
theorem dX4_day_1 : decode cX4_day 1 = .ok (.iconst 0, 1) := by decide +kernel
theorem dX4_day_2 : decode cX4_day 2 = .ok (.putfield 68, 3) := by decide +kernel
theorem dX4_day_5 : decode cX4_day 5 = .ok (.aload_n 0, 1) := by decide +kernel
theorem dX4_day_6 : decode cX4_day 6 = .ok (.getfield 110, 3) := by decide +kernel
theorem dX4_day_9 : decode cX4_day 9 = .ok (.ireturn, 1) := by decide +kernel
theorem dX4_matched_0 : decode cX4_matched 0 = .ok (.aload_n 0, 1) := by decide +kernel
theorem dX4_matched_1 : decode cX4_matched 1 = .ok (.iload_n 1, 1) := by decide +kernel
theorem dX4_matched_2 : decode cX4_matched 2 = .ok (.invokevirtual 137, 3) := by decide +kernel
theorem dX4_matched_5 : decode cX4_matched 5 = .ok (.istore_n 2, 1) := by decide +kernel
theorem dX4_matched_6 : decode cX4_matched 6 = .ok (.aload_n 0, 1) := by decide +kernel
theorem dX4_matched_7 : decode cX4_matched 7 = .ok (.getfield 68, 3) := by decide +kernel
theorem dX4_matched_10 : decode cX4_matched 10 = .ok (.ifCond .le 5, 3) := by decide +kernel
theorem dX4_matched_13 : decode cX4_matched 13 = .ok (.iconst 0, 1) := by decide +kernel
theorem dX4_matched_14 : decode cX4_matched 14 = .ok (.ireturn, 1) := by decide +kernel
theorem dX4_matched_15 : decode cX4_matched 15 = .ok (.aload_n 0, 1) := by decide +kernel
theorem dX4_matched_16 : decode cX4_matched 16 = .ok (.iconst (-1), 1) := by decide +kernel
theorem dX4_matched_17 : decode cX4_matched 17 = .ok (.iconst 0, 1) := by decide +kernel
theorem dX4_matched_18 : decode cX4_matched 18 = .ok (.invokevirtual 103, 3) := by decide +kernel
theorem dX4_matched_21 : decode cX4_matched 21 = .ok (.aload_n 0, 1) := by decide +kernel
theorem dX4_matched_22 : decode cX4_matched 22 = .ok (.iload_n 2, 1) := by decide +kernel
theorem dX4_matched_23 : decode cX4_matched 23 = .ok (.iconst 0, 1) := by decide +kernel
theorem dX4_matched_24 : decode cX4_matched 24 = .ok (.invokevirtual 116, 3) := by decide +kernel
theorem dX4_matched_27 : decode cX4_matched 27 = .ok (.invokestatic 107, 3) := by decide +kernel
theorem dX4_matched_30 : decode cX4_matched 30 = .ok (.aload_n 0, 1) := by decide +kernel
theorem dX4_matched_31 : decode cX4_matched 31 = .ok (.iload_n 2, 1) := by decide +kernel
theorem dX4_matched_32 : decode cX4_matched 32 = .ok (.iconst 1, 1) := by decide +kernel
theorem dX4_matched_33 : decode cX4_matched 33 = .ok (.invokevirtual 116, 3) := by decide +kernel
theorem dX4_matched_36 : decode cX4_matched 36 = .ok (.invokestatic 107, 3) := by decide +kernel
theorem dX4_matched_39 : decode cX4_matched 39 = .ok (.imul, 1) := by decide +kernel
theorem dX4_matched_40 : decode cX4_matched 40 = .ok (.aload_n 0, 1) := by decide +kernel
theorem dX4_matched_41 : decode cX4_matched 41 = .ok (.iload_n 2, 1) := by decide +kernel
theorem dX4_matched_42 : decode cX4_matched 42 = .ok (.iconst 2, 1) := by decide +kernel
theorem dX4_matched_43 : decode cX4_matched 43 = .ok (.invokevirtual 116, 3) := by decide +kernel
theorem dX4_matched_46 : decode cX4_matched 46 = .ok (.invokestatic 107, 3) := by decide +kernel
theorem dX4_matched_49 : decode cX4_matched 49 = .ok (.imul, 1) := by decide +kernel
theorem dX4_matched_50 : decode cX4_matched 50 = .ok (.ireturn, 1) := by decide +kernel
theorem dX4_deciding__0 : decode cX4_deciding_ 0 = .ok (.iconst 0, 1) := by decide +kernel
theorem dX4_deciding__1 : decode cX4_deciding_ 1 = .ok (.istore_n 2, 1) := by decide +kernel
theorem dX4_deciding__2 : decode cX4_deciding_ 2 = .ok (.iconst 0, 1) := by decide +kernel
theorem dX4_deciding__3 : decode cX4_deciding_ 3 = .ok (.istore_n 3, 1) := by decide +kernel
theorem dX4_deciding__4 : decode cX4_deciding_ 4 = .ok (.iload_n 3, 1) := by decide +kernel
theorem dX4_deciding__5 : decode cX4_deciding_ 5 = .ok (.ldc 123, 2) := by decide +kernel
theorem dX4_deciding__7 : decode cX4_deciding_ 7 = .ok (.if_icmp .ge 65, 3) := by decide +kernel
theorem dX4_deciding__10 : decode cX4_deciding_ 10 = .ok (.iload_n 2, 1) := by decide +kernel
theorem dX4_deciding__11 : decode cX4_deciding_ 11 = .ok (.aload_n 0, 1) := by decide +kernel
theorem dX4_deciding__12 : decode cX4_deciding_ 12 = .ok (.getfield 62, 3) := by decide +kernel
theorem dX4_deciding__15 : decode cX4_deciding_ 15 = .ok (.iload_n 3, 1) := by decide +kernel
theorem dX4_deciding__16 : decode cX4_deciding_ 16 = .ok (.sipush 1024, 3) := by decide +kernel
theorem dX4_deciding__19 : decode cX4_deciding_ 19 = .ok (.idiv, 1) := by decide +kernel
theorem dX4_deciding__20 : decode cX4_deciding_ 20 = .ok (.iaload, 1) := by decide +kernel
theorem dX4_deciding__21 : decode cX4_deciding_ 21 = .ok (.aload_n 0, 1) := by decide +kernel
theorem dX4_deciding__22 : decode cX4_deciding_ 22 = .ok (.getfield 62, 3) := by decide +kernel
theorem dX4_deciding__25 : decode cX4_deciding_ 25 = .ok (.bipush 32, 2) := by decide +kernel
theorem dX4_deciding__27 : decode cX4_deciding_ 27 = .ok (.iload_n 3, 1) := by decide +kernel
theorem dX4_deciding__28 : decode cX4_deciding_ 28 = .ok (.bipush 32, 2) := by decide +kernel
theorem dX4_deciding__30 : decode cX4_deciding_ 30 = .ok (.idiv, 1) := by decide +kernel
theorem dX4_deciding__31 : decode cX4_deciding_ 31 = .ok (.bipush 32, 2) := by decide +kernel
theorem dX4_deciding__33 : decode cX4_deciding_ 33 = .ok (.irem, 1) := by decide +kernel
theorem dX4_deciding__34 : decode cX4_deciding_ 34 = .ok (.iadd, 1) := by decide +kernel
theorem dX4_deciding__35 : decode cX4_deciding_ 35 = .ok (.iaload, 1) := by decide +kernel
theorem dX4_deciding__36 : decode cX4_deciding_ 36 = .ok (.iand, 1) := by decide +kernel
theorem dX4_deciding__37 : decode cX4_deciding_ 37 = .ok (.aload_n 0, 1) := by decide +kernel
theorem dX4_deciding__38 : decode cX4_deciding_ 38 = .ok (.getfield 62, 3) := by decide +kernel
theorem dX4_deciding__41 : decode cX4_deciding_ 41 = .ok (.bipush 64, 2) := by decide +kernel
theorem dX4_deciding__43 : decode cX4_deciding_ 43 = .ok (.iload_n 3, 1) := by decide +kernel
theorem dX4_deciding__44 : decode cX4_deciding_ 44 = .ok (.bipush 32, 2) := by decide +kernel
theorem dX4_deciding__46 : decode cX4_deciding_ 46 = .ok (.irem, 1) := by decide +kernel
theorem dX4_deciding__47 : decode cX4_deciding_ 47 = .ok (.iadd, 1) := by decide +kernel
theorem dX4_deciding__48 : decode cX4_deciding_ 48 = .ok (.iaload, 1) := by decide +kernel
theorem dX4_deciding__49 : decode cX4_deciding_ 49 = .ok (.iand, 1) := by decide +kernel
theorem dX4_deciding__50 : decode cX4_deciding_ 50 = .ok (.invokestatic 124, 3) := by decide +kernel
theorem dX4_deciding__53 : decode cX4_deciding_ 53 = .ok (.iconst 1, 1) := by decide +kernel
theorem dX4_deciding__54 : decode cX4_deciding_ 54 = .ok (.iload_n 1, 1) := by decide +kernel
theorem dX4_deciding__55 : decode cX4_deciding_ 55 = .ok (.ishl, 1) := by decide +kernel
theorem dX4_deciding__56 : decode cX4_deciding_ 56 = .ok (.if_icmp .ne 7, 3) := by decide +kernel
theorem dX4_deciding__59 : decode cX4_deciding_ 59 = .ok (.iconst 1, 1) := by decide +kernel
theorem dX4_deciding__60 : decode cX4_deciding_ 60 = .ok (.goto 4, 3) := by decide +kernel
theorem dX4_deciding__63 : decode cX4_deciding_ 63 = .ok (.iconst 0, 1) := by decide +kernel
theorem dX4_deciding__64 : decode cX4_deciding_ 64 = .ok (.iadd, 1) := by decide +kernel
theorem dX4_deciding__65 : decode cX4_deciding_ 65 = .ok (.istore_n 2, 1) := by decide +kernel
theorem dX4_deciding__66 : decode cX4_deciding_ 66 = .ok (.iinc 3 1, 3) := by decide +kernel
theorem dX4_deciding__69 : decode cX4_deciding_ 69 = .ok (.goto (-65), 3) := by decide +kernel
theorem dX4_deciding__72 : decode cX4_deciding_ 72 = .ok (.iload_n 2, 1) := by decide +kernel
theorem dX4_deciding__73 : decode cX4_deciding_ 73 = .ok (.ireturn, 1) := by decide +kernel
theorem dX4_decided_0 : decode cX4_decided 0 = .ok (.aload_n 0, 1) := by decide +kernel
theorem dX4_decided_1 : decode cX4_decided 1 = .ok (.iconst 0, 1) := by decide +kernel
theorem dX4_decided_2 : decode cX4_decided 2 = .ok (.putfield 68, 3) := by decide +kernel
theorem dX4_decided_5 : decode cX4_decided 5 = .ok (.aload_n 0, 1) := by decide +kernel
theorem dX4_decided_6 : decode cX4_decided 6 = .ok (.iload_n 1, 1) := by decide +kernel
theorem dX4_decided_7 : decode cX4_decided 7 = .ok (.invokevirtual 82, 3) := by decide +kernel
theorem dX4_decided_10 : decode cX4_decided 10 = .ok (.istore_n 2, 1) := by decide +kernel
theorem dX4_decided_11 : decode cX4_decided 11 = .ok (.iload_n 2, 1) := by decide +kernel
theorem dX4_decided_12 : decode cX4_decided 12 = .ok (.iconst (-1), 1) := by decide +kernel
theorem dX4_decided_13 : decode cX4_decided 13 = .ok (.if_icmp .ne 9, 3) := by decide +kernel
theorem dX4_decided_16 : decode cX4_decided 16 = .ok (.aload_n 0, 1) := by decide +kernel
theorem dX4_decided_17 : decode cX4_decided 17 = .ok (.iconst 1, 1) := by decide +kernel
theorem dX4_decided_18 : decode cX4_decided 18 = .ok (.invokevirtual 90, 3) := by decide +kernel
theorem dX4_decided_21 : decode cX4_decided 21 = .ok (.ireturn, 1) := by decide +kernel
theorem dX4_decided_22 : decode cX4_decided 22 = .ok (.aload_n 0, 1) := by decide +kernel
theorem dX4_decided_23 : decode cX4_decided 23 = .ok (.invokevirtual 130, 3) := by decide +kernel
theorem dX4_decided_26 : decode cX4_decided 26 = .ok (.pop, 1) := by decide +kernel
theorem dX4_decided_27 : decode cX4_decided 27 = .ok (.aload_n 0, 1) := by decide +kernel
theorem dX4_decided_28 : decode cX4_decided 28 = .ok (.iload_n 2, 1) := by decide +kernel
theorem dX4_decided_29 : decode cX4_decided 29 = .ok (.invokevirtual 147, 3) := by decide +kernel
theorem dX4_decided_32 : decode cX4_decided 32 = .ok (.ireturn, 1) := by decide +kernel
theorem dX4_decidedBySamples_0 : decode cX4_decidedBySamples 0 = .ok (.aload_n 0, 1) := by decide +kernel
theorem dX4_decidedBySamples_1 : decode cX4_decidedBySamples 1 = .ok (.iload_n 1, 1) := by decide +kernel
theorem dX4_decidedBySamples_2 : decode cX4_decidedBySamples 2 = .ok (.invokevirtual 149, 3) := by decide +kernel
theorem dX4_decidedBySamples_5 : decode cX4_decidedBySamples 5 = .ok (.ireturn, 1) := by decide +kernel
theorem dX4_isShadowed_0 : decode cX4_isShadowed 0 = .ok (.aload_n 0, 1) := by decide +kernel
theorem dX4_isShadowed_1 : decode cX4_isShadowed 1 = .ok (.iload_n 1, 1) := by decide +kernel
theorem dX4_isShadowed_2 : decode cX4_isShadowed 2 = .ok (.invokevirtual 137, 3) := by decide +kernel
theorem dX4_isShadowed_5 : decode cX4_isShadowed 5 = .ok (.istore_n 2, 1) := by decide +kernel
theorem dX4_isShadowed_6 : decode cX4_isShadowed 6 = .ok (.aload_n 0, 1) := by decide +kernel
theorem dX4_isShadowed_7 : decode cX4_isShadowed 7 = .ok (.getfield 68, 3) := by decide +kernel
theorem dX4_isShadowed_10 : decode cX4_isShadowed 10 = .ok (.ifCond .ne 23, 3) := by decide +kernel
theorem dX4_isShadowed_13 : decode cX4_isShadowed 13 = .ok (.aload_n 0, 1) := by decide +kernel
theorem dX4_isShadowed_14 : decode cX4_isShadowed 14 = .ok (.iload_n 2, 1) := by decide +kernel
theorem dX4_isShadowed_15 : decode cX4_isShadowed 15 = .ok (.invokevirtual 113, 3) := by decide +kernel
theorem dX4_isShadowed_18 : decode cX4_isShadowed 18 = .ok (.ifCond .eq 15, 3) := by decide +kernel
theorem dX4_isShadowed_21 : decode cX4_isShadowed 21 = .ok (.aload_n 0, 1) := by decide +kernel
theorem dX4_isShadowed_22 : decode cX4_isShadowed 22 = .ok (.iload_n 1, 1) := by decide +kernel
theorem dX4_isShadowed_23 : decode cX4_isShadowed 23 = .ok (.invokevirtual 149, 3) := by decide +kernel
theorem dX4_isShadowed_26 : decode cX4_isShadowed 26 = .ok (.ifCond .ne 7, 3) := by decide +kernel
theorem dX4_isShadowed_29 : decode cX4_isShadowed 29 = .ok (.iconst 1, 1) := by decide +kernel
theorem dX4_isShadowed_30 : decode cX4_isShadowed 30 = .ok (.goto 4, 3) := by decide +kernel
theorem dX4_isShadowed_33 : decode cX4_isShadowed 33 = .ok (.iconst 0, 1) := by decide +kernel
theorem dX4_isShadowed_34 : decode cX4_isShadowed 34 = .ok (.ireturn, 1) := by decide +kernel
theorem dX4_mainShadow_0 : decode cX4_mainShadow 0 = .ok (.aload_n 0, 1) := by decide +kernel
theorem dX4_mainShadow_1 : decode cX4_mainShadow 1 = .ok (.iconst 0, 1) := by decide +kernel
theorem dX4_mainShadow_2 : decode cX4_mainShadow 2 = .ok (.putfield 68, 3) := by decide +kernel
theorem dX4_mainShadow_5 : decode cX4_mainShadow 5 = .ok (.aload_n 0, 1) := by decide +kernel
theorem dX4_mainShadow_6 : decode cX4_mainShadow 6 = .ok (.iload_n 1, 1) := by decide +kernel
theorem dX4_mainShadow_7 : decode cX4_mainShadow 7 = .ok (.invokevirtual 82, 3) := by decide +kernel
theorem dX4_mainShadow_10 : decode cX4_mainShadow 10 = .ok (.istore_n 2, 1) := by decide +kernel
theorem dX4_mainShadow_11 : decode cX4_mainShadow 11 = .ok (.iload_n 2, 1) := by decide +kernel
theorem dX4_mainShadow_12 : decode cX4_mainShadow 12 = .ok (.iconst (-1), 1) := by decide +kernel
theorem dX4_mainShadow_13 : decode cX4_mainShadow 13 = .ok (.if_icmp .ne 9, 3) := by decide +kernel
theorem dX4_mainShadow_16 : decode cX4_mainShadow 16 = .ok (.aload_n 0, 1) := by decide +kernel
theorem dX4_mainShadow_17 : decode cX4_mainShadow 17 = .ok (.iconst 1, 1) := by decide +kernel
theorem dX4_mainShadow_18 : decode cX4_mainShadow 18 = .ok (.invokevirtual 90, 3) := by decide +kernel
theorem dX4_mainShadow_21 : decode cX4_mainShadow 21 = .ok (.ireturn, 1) := by decide +kernel
theorem dX4_mainShadow_22 : decode cX4_mainShadow 22 = .ok (.aload_n 0, 1) := by decide +kernel
theorem dX4_mainShadow_23 : decode cX4_mainShadow 23 = .ok (.iconst (-1), 1) := by decide +kernel
theorem dX4_mainShadow_24 : decode cX4_mainShadow 24 = .ok (.iconst 0, 1) := by decide +kernel
theorem dX4_mainShadow_25 : decode cX4_mainShadow 25 = .ok (.invokevirtual 103, 3) := by decide +kernel
theorem dX4_mainShadow_28 : decode cX4_mainShadow 28 = .ok (.iconst 0, 1) := by decide +kernel
theorem dX4_mainShadow_29 : decode cX4_mainShadow 29 = .ok (.istore_n 3, 1) := by decide +kernel
theorem dX4_mainShadow_30 : decode cX4_mainShadow 30 = .ok (.iconst (-1), 1) := by decide +kernel
theorem dX4_mainShadow_31 : decode cX4_mainShadow 31 = .ok (.istore 4, 2) := by decide +kernel
theorem dX4_mainShadow_33 : decode cX4_mainShadow 33 = .ok (.iconst 0, 1) := by decide +kernel
theorem dX4_mainShadow_34 : decode cX4_mainShadow 34 = .ok (.istore 5, 2) := by decide +kernel
theorem dX4_mainShadow_36 : decode cX4_mainShadow 36 = .ok (.iload 5, 2) := by decide +kernel
theorem dX4_mainShadow_38 : decode cX4_mainShadow 38 = .ok (.iload_n 2, 1) := by decide +kernel
theorem dX4_mainShadow_39 : decode cX4_mainShadow 39 = .ok (.if_icmp .ge 107, 3) := by decide +kernel
theorem dX4_mainShadow_42 : decode cX4_mainShadow 42 = .ok (.aload_n 0, 1) := by decide +kernel
theorem dX4_mainShadow_43 : decode cX4_mainShadow 43 = .ok (.aload_n 0, 1) := by decide +kernel
theorem dX4_mainShadow_44 : decode cX4_mainShadow 44 = .ok (.getfield 25, 3) := by decide +kernel
theorem dX4_mainShadow_47 : decode cX4_mainShadow 47 = .ok (.iload 5, 2) := by decide +kernel
theorem dX4_mainShadow_49 : decode cX4_mainShadow 49 = .ok (.iaload, 1) := by decide +kernel
theorem dX4_mainShadow_50 : decode cX4_mainShadow 50 = .ok (.invokevirtual 113, 3) := by decide +kernel
theorem dX4_mainShadow_53 : decode cX4_mainShadow 53 = .ok (.ifCond .eq 7, 3) := by decide +kernel
theorem dX4_mainShadow_56 : decode cX4_mainShadow 56 = .ok (.iconst 1, 1) := by decide +kernel
theorem dX4_mainShadow_57 : decode cX4_mainShadow 57 = .ok (.goto 4, 3) := by decide +kernel
theorem dX4_mainShadow_60 : decode cX4_mainShadow 60 = .ok (.iconst 0, 1) := by decide +kernel
theorem dX4_mainShadow_61 : decode cX4_mainShadow 61 = .ok (.istore 6, 2) := by decide +kernel
theorem dX4_mainShadow_63 : decode cX4_mainShadow 63 = .ok (.iconst 0, 1) := by decide +kernel
theorem dX4_mainShadow_64 : decode cX4_mainShadow 64 = .ok (.istore 7, 2) := by decide +kernel
theorem dX4_mainShadow_66 : decode cX4_mainShadow 66 = .ok (.iload 7, 2) := by decide +kernel
theorem dX4_mainShadow_68 : decode cX4_mainShadow 68 = .ok (.iconst 3, 1) := by decide +kernel
theorem dX4_mainShadow_69 : decode cX4_mainShadow 69 = .ok (.if_icmp .ge 43, 3) := by decide +kernel
theorem dX4_mainShadow_72 : decode cX4_mainShadow 72 = .ok (.iload 6, 2) := by decide +kernel
theorem dX4_mainShadow_74 : decode cX4_mainShadow 74 = .ok (.aload_n 0, 1) := by decide +kernel
theorem dX4_mainShadow_75 : decode cX4_mainShadow 75 = .ok (.aload_n 0, 1) := by decide +kernel
theorem dX4_mainShadow_76 : decode cX4_mainShadow 76 = .ok (.getfield 25, 3) := by decide +kernel
theorem dX4_mainShadow_79 : decode cX4_mainShadow 79 = .ok (.iload 5, 2) := by decide +kernel
theorem dX4_mainShadow_81 : decode cX4_mainShadow 81 = .ok (.iaload, 1) := by decide +kernel
theorem dX4_mainShadow_82 : decode cX4_mainShadow 82 = .ok (.iload 7, 2) := by decide +kernel
theorem dX4_mainShadow_84 : decode cX4_mainShadow 84 = .ok (.invokevirtual 116, 3) := by decide +kernel
theorem dX4_mainShadow_87 : decode cX4_mainShadow 87 = .ok (.aload_n 0, 1) := by decide +kernel
theorem dX4_mainShadow_88 : decode cX4_mainShadow 88 = .ok (.aload_n 0, 1) := by decide +kernel
theorem dX4_mainShadow_89 : decode cX4_mainShadow 89 = .ok (.getfield 25, 3) := by decide +kernel
theorem dX4_mainShadow_92 : decode cX4_mainShadow 92 = .ok (.iload_n 2, 1) := by decide +kernel
theorem dX4_mainShadow_93 : decode cX4_mainShadow 93 = .ok (.iaload, 1) := by decide +kernel
theorem dX4_mainShadow_94 : decode cX4_mainShadow 94 = .ok (.iload 7, 2) := by decide +kernel
theorem dX4_mainShadow_96 : decode cX4_mainShadow 96 = .ok (.invokevirtual 116, 3) := by decide +kernel
theorem dX4_mainShadow_99 : decode cX4_mainShadow 99 = .ok (.iand, 1) := by decide +kernel
theorem dX4_mainShadow_100 : decode cX4_mainShadow 100 = .ok (.invokestatic 107, 3) := by decide +kernel
theorem dX4_mainShadow_103 : decode cX4_mainShadow 103 = .ok (.imul, 1) := by decide +kernel
theorem dX4_mainShadow_104 : decode cX4_mainShadow 104 = .ok (.istore 6, 2) := by decide +kernel
theorem dX4_mainShadow_106 : decode cX4_mainShadow 106 = .ok (.iinc 7 1, 3) := by decide +kernel
theorem dX4_mainShadow_109 : decode cX4_mainShadow 109 = .ok (.goto (-43), 3) := by decide +kernel
theorem dX4_mainShadow_112 : decode cX4_mainShadow 112 = .ok (.iload 6, 2) := by decide +kernel
theorem dX4_mainShadow_114 : decode cX4_mainShadow 114 = .ok (.iload_n 3, 1) := by decide +kernel
theorem dX4_mainShadow_115 : decode cX4_mainShadow 115 = .ok (.if_icmp .le 8, 3) := by decide +kernel
theorem dX4_mainShadow_118 : decode cX4_mainShadow 118 = .ok (.iload 5, 2) := by decide +kernel
theorem dX4_mainShadow_120 : decode cX4_mainShadow 120 = .ok (.goto 5, 3) := by decide +kernel
theorem dX4_mainShadow_123 : decode cX4_mainShadow 123 = .ok (.iload 4, 2) := by decide +kernel
theorem dX4_mainShadow_125 : decode cX4_mainShadow 125 = .ok (.istore 4, 2) := by decide +kernel
theorem dX4_mainShadow_127 : decode cX4_mainShadow 127 = .ok (.iload 6, 2) := by decide +kernel
theorem dX4_mainShadow_129 : decode cX4_mainShadow 129 = .ok (.iload_n 3, 1) := by decide +kernel
theorem dX4_mainShadow_130 : decode cX4_mainShadow 130 = .ok (.if_icmp .le 8, 3) := by decide +kernel
theorem dX4_mainShadow_133 : decode cX4_mainShadow 133 = .ok (.iload 6, 2) := by decide +kernel
theorem dX4_mainShadow_135 : decode cX4_mainShadow 135 = .ok (.goto 4, 3) := by decide +kernel
theorem dX4_mainShadow_138 : decode cX4_mainShadow 138 = .ok (.iload_n 3, 1) := by decide +kernel
theorem dX4_mainShadow_139 : decode cX4_mainShadow 139 = .ok (.istore_n 3, 1) := by decide +kernel
theorem dX4_mainShadow_140 : decode cX4_mainShadow 140 = .ok (.iinc 5 1, 3) := by decide +kernel
theorem dX4_mainShadow_143 : decode cX4_mainShadow 143 = .ok (.goto (-107), 3) := by decide +kernel
theorem dX4_mainShadow_146 : decode cX4_mainShadow 146 = .ok (.iload 4, 2) := by decide +kernel
theorem dX4_mainShadow_148 : decode cX4_mainShadow 148 = .ok (.iconst (-1), 1) := by decide +kernel
theorem dX4_mainShadow_149 : decode cX4_mainShadow 149 = .ok (.if_icmp .ne 11, 3) := by decide +kernel
theorem dX4_mainShadow_152 : decode cX4_mainShadow 152 = .ok (.aload_n 0, 1) := by decide +kernel
theorem dX4_mainShadow_153 : decode cX4_mainShadow 153 = .ok (.iconst 1, 1) := by decide +kernel
theorem dX4_mainShadow_154 : decode cX4_mainShadow 154 = .ok (.invokevirtual 90, 3) := by decide +kernel
theorem dX4_mainShadow_157 : decode cX4_mainShadow 157 = .ok (.goto 15, 3) := by decide +kernel
theorem dX4_mainShadow_160 : decode cX4_mainShadow 160 = .ok (.aload_n 0, 1) := by decide +kernel
theorem dX4_mainShadow_161 : decode cX4_mainShadow 161 = .ok (.getfield 32, 3) := by decide +kernel
theorem dX4_mainShadow_164 : decode cX4_mainShadow 164 = .ok (.aload_n 0, 1) := by decide +kernel
theorem dX4_mainShadow_165 : decode cX4_mainShadow 165 = .ok (.getfield 25, 3) := by decide +kernel
theorem dX4_mainShadow_168 : decode cX4_mainShadow 168 = .ok (.iload 4, 2) := by decide +kernel
theorem dX4_mainShadow_170 : decode cX4_mainShadow 170 = .ok (.iaload, 1) := by decide +kernel
theorem dX4_mainShadow_171 : decode cX4_mainShadow 171 = .ok (.iaload, 1) := by decide +kernel
theorem dX4_mainShadow_172 : decode cX4_mainShadow 172 = .ok (.ireturn, 1) := by decide +kernel
theorem dX4_accepted_0 : decode cX4_accepted 0 = .ok (.aload_n 0, 1) := by decide +kernel
theorem dX4_accepted_1 : decode cX4_accepted 1 = .ok (.iconst 0, 1) := by decide +kernel
theorem dX4_accepted_2 : decode cX4_accepted 2 = .ok (.putfield 68, 3) := by decide +kernel
theorem dX4_accepted_5 : decode cX4_accepted 5 = .ok (.aload_n 0, 1) := by decide +kernel
theorem dX4_accepted_6 : decode cX4_accepted 6 = .ok (.invokevirtual 130, 3) := by decide +kernel
theorem dX4_accepted_9 : decode cX4_accepted 9 = .ok (.pop, 1) := by decide +kernel
theorem dX4_accepted_10 : decode cX4_accepted 10 = .ok (.iconst 0, 1) := by decide +kernel
theorem dX4_accepted_11 : decode cX4_accepted 11 = .ok (.istore_n 1, 1) := by decide +kernel
theorem dX4_accepted_12 : decode cX4_accepted 12 = .ok (.iconst 0, 1) := by decide +kernel
theorem dX4_accepted_13 : decode cX4_accepted 13 = .ok (.istore_n 2, 1) := by decide +kernel
theorem dX4_accepted_14 : decode cX4_accepted 14 = .ok (.iload_n 2, 1) := by decide +kernel
theorem dX4_accepted_15 : decode cX4_accepted 15 = .ok (.ldc 123, 2) := by decide +kernel
theorem dX4_accepted_17 : decode cX4_accepted 17 = .ok (.if_icmp .ge 70, 3) := by decide +kernel
theorem dX4_accepted_20 : decode cX4_accepted 20 = .ok (.iload_n 1, 1) := by decide +kernel
theorem dX4_accepted_21 : decode cX4_accepted 21 = .ok (.aload_n 0, 1) := by decide +kernel
theorem dX4_accepted_22 : decode cX4_accepted 22 = .ok (.getfield 62, 3) := by decide +kernel
theorem dX4_accepted_25 : decode cX4_accepted 25 = .ok (.iload_n 2, 1) := by decide +kernel
theorem dX4_accepted_26 : decode cX4_accepted 26 = .ok (.sipush 1024, 3) := by decide +kernel
theorem dX4_accepted_29 : decode cX4_accepted 29 = .ok (.idiv, 1) := by decide +kernel
theorem dX4_accepted_30 : decode cX4_accepted 30 = .ok (.iaload, 1) := by decide +kernel
theorem dX4_accepted_31 : decode cX4_accepted 31 = .ok (.aload_n 0, 1) := by decide +kernel
theorem dX4_accepted_32 : decode cX4_accepted 32 = .ok (.getfield 62, 3) := by decide +kernel
theorem dX4_accepted_35 : decode cX4_accepted 35 = .ok (.bipush 32, 2) := by decide +kernel
theorem dX4_accepted_37 : decode cX4_accepted 37 = .ok (.iload_n 2, 1) := by decide +kernel
theorem dX4_accepted_38 : decode cX4_accepted 38 = .ok (.bipush 32, 2) := by decide +kernel
theorem dX4_accepted_40 : decode cX4_accepted 40 = .ok (.idiv, 1) := by decide +kernel
theorem dX4_accepted_41 : decode cX4_accepted 41 = .ok (.bipush 32, 2) := by decide +kernel
theorem dX4_accepted_43 : decode cX4_accepted 43 = .ok (.irem, 1) := by decide +kernel
theorem dX4_accepted_44 : decode cX4_accepted 44 = .ok (.iadd, 1) := by decide +kernel
theorem dX4_accepted_45 : decode cX4_accepted 45 = .ok (.iaload, 1) := by decide +kernel
theorem dX4_accepted_46 : decode cX4_accepted 46 = .ok (.iand, 1) := by decide +kernel
theorem dX4_accepted_47 : decode cX4_accepted 47 = .ok (.aload_n 0, 1) := by decide +kernel
theorem dX4_accepted_48 : decode cX4_accepted 48 = .ok (.getfield 62, 3) := by decide +kernel
theorem dX4_accepted_51 : decode cX4_accepted 51 = .ok (.bipush 64, 2) := by decide +kernel
theorem dX4_accepted_53 : decode cX4_accepted 53 = .ok (.iload_n 2, 1) := by decide +kernel
theorem dX4_accepted_54 : decode cX4_accepted 54 = .ok (.bipush 32, 2) := by decide +kernel
theorem dX4_accepted_56 : decode cX4_accepted 56 = .ok (.irem, 1) := by decide +kernel
theorem dX4_accepted_57 : decode cX4_accepted 57 = .ok (.iadd, 1) := by decide +kernel
theorem dX4_accepted_58 : decode cX4_accepted 58 = .ok (.iaload, 1) := by decide +kernel
theorem dX4_accepted_59 : decode cX4_accepted 59 = .ok (.iand, 1) := by decide +kernel
theorem dX4_accepted_60 : decode cX4_accepted 60 = .ok (.invokestatic 124, 3) := by decide +kernel
theorem dX4_accepted_63 : decode cX4_accepted 63 = .ok (.aload_n 0, 1) := by decide +kernel
theorem dX4_accepted_64 : decode cX4_accepted 64 = .ok (.getfield 62, 3) := by decide +kernel
theorem dX4_accepted_67 : decode cX4_accepted 67 = .ok (.bipush 96, 2) := by decide +kernel
theorem dX4_accepted_69 : decode cX4_accepted 69 = .ok (.iaload, 1) := by decide +kernel
theorem dX4_accepted_70 : decode cX4_accepted 70 = .ok (.iand, 1) := by decide +kernel
theorem dX4_accepted_71 : decode cX4_accepted 71 = .ok (.ifCond .eq 7, 3) := by decide +kernel
theorem dX4_accepted_74 : decode cX4_accepted 74 = .ok (.iconst 1, 1) := by decide +kernel
theorem dX4_accepted_75 : decode cX4_accepted 75 = .ok (.goto 4, 3) := by decide +kernel
theorem dX4_accepted_78 : decode cX4_accepted 78 = .ok (.iconst 0, 1) := by decide +kernel
theorem dX4_accepted_79 : decode cX4_accepted 79 = .ok (.iadd, 1) := by decide +kernel
theorem dX4_accepted_80 : decode cX4_accepted 80 = .ok (.istore_n 1, 1) := by decide +kernel
theorem dX4_accepted_81 : decode cX4_accepted 81 = .ok (.iinc 2 1, 3) := by decide +kernel
theorem dX4_accepted_84 : decode cX4_accepted 84 = .ok (.goto (-70), 3) := by decide +kernel
theorem dX4_accepted_87 : decode cX4_accepted 87 = .ok (.iload_n 1, 1) := by decide +kernel
theorem dX4_accepted_88 : decode cX4_accepted 88 = .ok (.ireturn, 1) := by decide +kernel
theorem dX4_byMove_0 : decode cX4_byMove 0 = .ok (.iconst 0, 1) := by decide +kernel
theorem dX4_byMove_1 : decode cX4_byMove 1 = .ok (.istore_n 3, 1) := by decide +kernel
theorem dX4_byMove_2 : decode cX4_byMove 2 = .ok (.iconst 0, 1) := by decide +kernel
theorem dX4_byMove_3 : decode cX4_byMove 3 = .ok (.istore 4, 2) := by decide +kernel
theorem dX4_byMove_5 : decode cX4_byMove 5 = .ok (.iload 4, 2) := by decide +kernel
theorem dX4_byMove_7 : decode cX4_byMove 7 = .ok (.aload_n 0, 1) := by decide +kernel
theorem dX4_byMove_8 : decode cX4_byMove 8 = .ok (.getfield 79, 3) := by decide +kernel
theorem dX4_byMove_11 : decode cX4_byMove 11 = .ok (.if_icmp .ge 60, 3) := by decide +kernel
theorem dX4_byMove_14 : decode cX4_byMove 14 = .ok (.iload_n 3, 1) := by decide +kernel
theorem dX4_byMove_15 : decode cX4_byMove 15 = .ok (.iload_n 3, 1) := by decide +kernel
theorem dX4_byMove_16 : decode cX4_byMove 16 = .ok (.iload_n 1, 1) := by decide +kernel
theorem dX4_byMove_17 : decode cX4_byMove 17 = .ok (.if_icmp .ne 7, 3) := by decide +kernel
theorem dX4_byMove_20 : decode cX4_byMove 20 = .ok (.iconst 1, 1) := by decide +kernel
theorem dX4_byMove_21 : decode cX4_byMove 21 = .ok (.goto 4, 3) := by decide +kernel
theorem dX4_byMove_24 : decode cX4_byMove 24 = .ok (.iconst 0, 1) := by decide +kernel
theorem dX4_byMove_25 : decode cX4_byMove 25 = .ok (.iadd, 1) := by decide +kernel
theorem dX4_byMove_26 : decode cX4_byMove 26 = .ok (.istore_n 3, 1) := by decide +kernel
theorem dX4_byMove_27 : decode cX4_byMove 27 = .ok (.iload 4, 2) := by decide +kernel
theorem dX4_byMove_29 : decode cX4_byMove 29 = .ok (.iload_n 2, 1) := by decide +kernel
theorem dX4_byMove_30 : decode cX4_byMove 30 = .ok (.if_icmp .ne 19, 3) := by decide +kernel
theorem dX4_byMove_33 : decode cX4_byMove 33 = .ok (.aload_n 0, 1) := by decide +kernel
theorem dX4_byMove_34 : decode cX4_byMove 34 = .ok (.getfield 65, 3) := by decide +kernel
theorem dX4_byMove_37 : decode cX4_byMove 37 = .ok (.iload 4, 2) := by decide +kernel
theorem dX4_byMove_39 : decode cX4_byMove 39 = .ok (.aload_n 0, 1) := by decide +kernel
theorem dX4_byMove_40 : decode cX4_byMove 40 = .ok (.getfield 25, 3) := by decide +kernel
theorem dX4_byMove_43 : decode cX4_byMove 43 = .ok (.iload_n 1, 1) := by decide +kernel
theorem dX4_byMove_44 : decode cX4_byMove 44 = .ok (.iaload, 1) := by decide +kernel
theorem dX4_byMove_45 : decode cX4_byMove 45 = .ok (.iastore, 1) := by decide +kernel
theorem dX4_byMove_46 : decode cX4_byMove 46 = .ok (.goto 19, 3) := by decide +kernel
theorem dX4_byMove_49 : decode cX4_byMove 49 = .ok (.aload_n 0, 1) := by decide +kernel
theorem dX4_byMove_50 : decode cX4_byMove 50 = .ok (.getfield 65, 3) := by decide +kernel
theorem dX4_byMove_53 : decode cX4_byMove 53 = .ok (.iload 4, 2) := by decide +kernel
theorem dX4_byMove_55 : decode cX4_byMove 55 = .ok (.aload_n 0, 1) := by decide +kernel
theorem dX4_byMove_56 : decode cX4_byMove 56 = .ok (.getfield 25, 3) := by decide +kernel
theorem dX4_byMove_59 : decode cX4_byMove 59 = .ok (.iload_n 3, 1) := by decide +kernel
theorem dX4_byMove_60 : decode cX4_byMove 60 = .ok (.iaload, 1) := by decide +kernel
theorem dX4_byMove_61 : decode cX4_byMove 61 = .ok (.iastore, 1) := by decide +kernel
theorem dX4_byMove_62 : decode cX4_byMove 62 = .ok (.iinc 3 1, 3) := by decide +kernel
theorem dX4_byMove_65 : decode cX4_byMove 65 = .ok (.iinc 4 1, 3) := by decide +kernel
theorem dX4_byMove_68 : decode cX4_byMove 68 = .ok (.goto (-63), 3) := by decide +kernel
theorem dX4_byMove_71 : decode cX4_byMove 71 = .ok (.aload_n 0, 1) := by decide +kernel
theorem dX4_byMove_72 : decode cX4_byMove 72 = .ok (.invokevirtual 130, 3) := by decide +kernel
theorem dX4_byMove_75 : decode cX4_byMove 75 = .ok (.pop, 1) := by decide +kernel
theorem dX4_byMove_76 : decode cX4_byMove 76 = .ok (.aload_n 0, 1) := by decide +kernel
theorem dX4_byMove_77 : decode cX4_byMove 77 = .ok (.iconst 1, 1) := by decide +kernel
theorem dX4_byMove_78 : decode cX4_byMove 78 = .ok (.aload_n 0, 1) := by decide +kernel
theorem dX4_byMove_79 : decode cX4_byMove 79 = .ok (.getfield 65, 3) := by decide +kernel
theorem dX4_byMove_82 : decode cX4_byMove 82 = .ok (.aload_n 0, 1) := by decide +kernel
theorem dX4_byMove_83 : decode cX4_byMove 83 = .ok (.getfield 79, 3) := by decide +kernel
theorem dX4_byMove_86 : decode cX4_byMove 86 = .ok (.invokevirtual 119, 3) := by decide +kernel
theorem dX4_byMove_89 : decode cX4_byMove 89 = .ok (.aload_n 0, 1) := by decide +kernel
theorem dX4_byMove_90 : decode cX4_byMove 90 = .ok (.invokevirtual 134, 3) := by decide +kernel
theorem dX4_byMove_93 : decode cX4_byMove 93 = .ok (.ireturn, 1) := by decide +kernel
theorem dX4_changedByMove_0 : decode cX4_changedByMove 0 = .ok (.aload_n 0, 1) := by decide +kernel
theorem dX4_changedByMove_1 : decode cX4_changedByMove 1 = .ok (.iconst 0, 1) := by decide +kernel
theorem dX4_changedByMove_2 : decode cX4_changedByMove 2 = .ok (.putfield 68, 3) := by decide +kernel
theorem dX4_changedByMove_5 : decode cX4_changedByMove 5 = .ok (.aload_n 0, 1) := by decide +kernel
theorem dX4_changedByMove_6 : decode cX4_changedByMove 6 = .ok (.iload_n 1, 1) := by decide +kernel
theorem dX4_changedByMove_7 : decode cX4_changedByMove 7 = .ok (.invokevirtual 82, 3) := by decide +kernel
theorem dX4_changedByMove_10 : decode cX4_changedByMove 10 = .ok (.istore_n 3, 1) := by decide +kernel
theorem dX4_changedByMove_11 : decode cX4_changedByMove 11 = .ok (.iload_n 3, 1) := by decide +kernel
theorem dX4_changedByMove_12 : decode cX4_changedByMove 12 = .ok (.iconst (-1), 1) := by decide +kernel
theorem dX4_changedByMove_13 : decode cX4_changedByMove 13 = .ok (.if_icmp .ne 9, 3) := by decide +kernel
theorem dX4_changedByMove_16 : decode cX4_changedByMove 16 = .ok (.aload_n 0, 1) := by decide +kernel
theorem dX4_changedByMove_17 : decode cX4_changedByMove 17 = .ok (.iconst 1, 1) := by decide +kernel
theorem dX4_changedByMove_18 : decode cX4_changedByMove 18 = .ok (.invokevirtual 90, 3) := by decide +kernel
theorem dX4_changedByMove_21 : decode cX4_changedByMove 21 = .ok (.ireturn, 1) := by decide +kernel
theorem dX4_changedByMove_22 : decode cX4_changedByMove 22 = .ok (.iload_n 2, 1) := by decide +kernel
theorem dX4_changedByMove_23 : decode cX4_changedByMove 23 = .ok (.iconst 0, 1) := by decide +kernel
theorem dX4_changedByMove_24 : decode cX4_changedByMove 24 = .ok (.aload_n 0, 1) := by decide +kernel
theorem dX4_changedByMove_25 : decode cX4_changedByMove 25 = .ok (.getfield 79, 3) := by decide +kernel
theorem dX4_changedByMove_28 : decode cX4_changedByMove 28 = .ok (.iconst 1, 1) := by decide +kernel
theorem dX4_changedByMove_29 : decode cX4_changedByMove 29 = .ok (.isub, 1) := by decide +kernel
theorem dX4_changedByMove_30 : decode cX4_changedByMove 30 = .ok (.invokestatic 75, 3) := by decide +kernel
theorem dX4_changedByMove_33 : decode cX4_changedByMove 33 = .ok (.ifCond .eq 12, 3) := by decide +kernel
theorem dX4_changedByMove_36 : decode cX4_changedByMove 36 = .ok (.aload_n 0, 1) := by decide +kernel
theorem dX4_changedByMove_37 : decode cX4_changedByMove 37 = .ok (.iload_n 3, 1) := by decide +kernel
theorem dX4_changedByMove_38 : decode cX4_changedByMove 38 = .ok (.iload_n 2, 1) := by decide +kernel
theorem dX4_changedByMove_39 : decode cX4_changedByMove 39 = .ok (.invokevirtual 152, 3) := by decide +kernel
theorem dX4_changedByMove_42 : decode cX4_changedByMove 42 = .ok (.goto 8, 3) := by decide +kernel
theorem dX4_changedByMove_45 : decode cX4_changedByMove 45 = .ok (.aload_n 0, 1) := by decide +kernel
theorem dX4_changedByMove_46 : decode cX4_changedByMove 46 = .ok (.iconst 2, 1) := by decide +kernel
theorem dX4_changedByMove_47 : decode cX4_changedByMove 47 = .ok (.invokevirtual 90, 3) := by decide +kernel
theorem dX4_changedByMove_50 : decode cX4_changedByMove 50 = .ok (.ireturn, 1) := by decide +kernel
theorem dX4_takes_0 : decode cX4_takes 0 = .ok (.iconst 0, 1) := by decide +kernel
theorem dX4_takes_1 : decode cX4_takes 1 = .ok (.istore_n 1, 1) := by decide +kernel
theorem dX4_takes_2 : decode cX4_takes 2 = .ok (.iload_n 1, 1) := by decide +kernel
theorem dX4_takes_3 : decode cX4_takes 3 = .ok (.aload_n 0, 1) := by decide +kernel
theorem dX4_takes_4 : decode cX4_takes 4 = .ok (.getfield 79, 3) := by decide +kernel
theorem dX4_takes_7 : decode cX4_takes 7 = .ok (.if_icmp .ge 21, 3) := by decide +kernel
theorem dX4_takes_10 : decode cX4_takes 10 = .ok (.aload_n 0, 1) := by decide +kernel
theorem dX4_takes_11 : decode cX4_takes 11 = .ok (.getfield 25, 3) := by decide +kernel
theorem dX4_takes_14 : decode cX4_takes 14 = .ok (.iload_n 1, 1) := by decide +kernel
theorem dX4_takes_15 : decode cX4_takes 15 = .ok (.aload_n 0, 1) := by decide +kernel
theorem dX4_takes_16 : decode cX4_takes 16 = .ok (.getfield 65, 3) := by decide +kernel
theorem dX4_takes_19 : decode cX4_takes 19 = .ok (.iload_n 1, 1) := by decide +kernel
theorem dX4_takes_20 : decode cX4_takes 20 = .ok (.iaload, 1) := by decide +kernel
theorem dX4_takes_21 : decode cX4_takes 21 = .ok (.iastore, 1) := by decide +kernel
theorem dX4_takes_22 : decode cX4_takes 22 = .ok (.iinc 1 1, 3) := by decide +kernel
theorem dX4_takes_25 : decode cX4_takes 25 = .ok (.goto (-23), 3) := by decide +kernel
theorem dX4_takes_28 : decode cX4_takes 28 = .ok (.return_, 1) := by decide +kernel
theorem dX4_move_0 : decode cX4_move 0 = .ok (.aload_n 0, 1) := by decide +kernel
theorem dX4_move_1 : decode cX4_move 1 = .ok (.iconst 0, 1) := by decide +kernel
theorem dX4_move_2 : decode cX4_move 2 = .ok (.putfield 68, 3) := by decide +kernel
theorem dX4_move_5 : decode cX4_move 5 = .ok (.aload_n 0, 1) := by decide +kernel
theorem dX4_move_6 : decode cX4_move 6 = .ok (.iload_n 1, 1) := by decide +kernel
theorem dX4_move_7 : decode cX4_move 7 = .ok (.invokevirtual 82, 3) := by decide +kernel
theorem dX4_move_10 : decode cX4_move 10 = .ok (.istore_n 3, 1) := by decide +kernel
theorem dX4_move_11 : decode cX4_move 11 = .ok (.iload_n 3, 1) := by decide +kernel
theorem dX4_move_12 : decode cX4_move 12 = .ok (.iconst (-1), 1) := by decide +kernel
theorem dX4_move_13 : decode cX4_move 13 = .ok (.if_icmp .ne 9, 3) := by decide +kernel
theorem dX4_move_16 : decode cX4_move 16 = .ok (.aload_n 0, 1) := by decide +kernel
theorem dX4_move_17 : decode cX4_move 17 = .ok (.iconst 1, 1) := by decide +kernel
theorem dX4_move_18 : decode cX4_move 18 = .ok (.invokevirtual 90, 3) := by decide +kernel
theorem dX4_move_21 : decode cX4_move 21 = .ok (.ireturn, 1) := by decide +kernel
theorem dX4_move_22 : decode cX4_move 22 = .ok (.iload_n 2, 1) := by decide +kernel
theorem dX4_move_23 : decode cX4_move 23 = .ok (.iconst 0, 1) := by decide +kernel
theorem dX4_move_24 : decode cX4_move 24 = .ok (.aload_n 0, 1) := by decide +kernel
theorem dX4_move_25 : decode cX4_move 25 = .ok (.getfield 79, 3) := by decide +kernel
theorem dX4_move_28 : decode cX4_move 28 = .ok (.iconst 1, 1) := by decide +kernel
theorem dX4_move_29 : decode cX4_move 29 = .ok (.isub, 1) := by decide +kernel
theorem dX4_move_30 : decode cX4_move 30 = .ok (.invokestatic 75, 3) := by decide +kernel
theorem dX4_move_33 : decode cX4_move 33 = .ok (.ifCond .ne 9, 3) := by decide +kernel
theorem dX4_move_36 : decode cX4_move 36 = .ok (.aload_n 0, 1) := by decide +kernel
theorem dX4_move_37 : decode cX4_move 37 = .ok (.iconst 2, 1) := by decide +kernel
theorem dX4_move_38 : decode cX4_move 38 = .ok (.invokevirtual 90, 3) := by decide +kernel
theorem dX4_move_41 : decode cX4_move 41 = .ok (.ireturn, 1) := by decide +kernel
theorem dX4_move_42 : decode cX4_move 42 = .ok (.aload_n 0, 1) := by decide +kernel
theorem dX4_move_43 : decode cX4_move 43 = .ok (.iload_n 3, 1) := by decide +kernel
theorem dX4_move_44 : decode cX4_move 44 = .ok (.iload_n 2, 1) := by decide +kernel
theorem dX4_move_45 : decode cX4_move 45 = .ok (.invokevirtual 152, 3) := by decide +kernel
theorem dX4_move_48 : decode cX4_move 48 = .ok (.ifCond .le 9, 3) := by decide +kernel
theorem dX4_move_51 : decode cX4_move 51 = .ok (.aload_n 0, 1) := by decide +kernel
theorem dX4_move_52 : decode cX4_move 52 = .ok (.iconst 3, 1) := by decide +kernel
theorem dX4_move_53 : decode cX4_move 53 = .ok (.invokevirtual 90, 3) := by decide +kernel
theorem dX4_move_56 : decode cX4_move 56 = .ok (.ireturn, 1) := by decide +kernel
theorem dX4_move_57 : decode cX4_move 57 = .ok (.aload_n 0, 1) := by decide +kernel
theorem dX4_move_58 : decode cX4_move 58 = .ok (.invokevirtual 155, 3) := by decide +kernel
theorem dX4_move_61 : decode cX4_move 61 = .ok (.iload_n 3, 1) := by decide +kernel
theorem dX4_move_62 : decode cX4_move 62 = .ok (.ireturn, 1) := by decide +kernel
theorem dX4_sortByHits_0 : decode cX4_sortByHits 0 = .ok (.aload_n 0, 1) := by decide +kernel
theorem dX4_sortByHits_1 : decode cX4_sortByHits 1 = .ok (.iconst 0, 1) := by decide +kernel
theorem dX4_sortByHits_2 : decode cX4_sortByHits 2 = .ok (.putfield 68, 3) := by decide +kernel
theorem dX4_sortByHits_5 : decode cX4_sortByHits 5 = .ok (.iconst 0, 1) := by decide +kernel
theorem dX4_sortByHits_6 : decode cX4_sortByHits 6 = .ok (.istore_n 1, 1) := by decide +kernel
theorem dX4_sortByHits_7 : decode cX4_sortByHits 7 = .ok (.iconst 1, 1) := by decide +kernel
theorem dX4_sortByHits_8 : decode cX4_sortByHits 8 = .ok (.istore_n 2, 1) := by decide +kernel
theorem dX4_sortByHits_9 : decode cX4_sortByHits 9 = .ok (.iload_n 2, 1) := by decide +kernel
theorem dX4_sortByHits_10 : decode cX4_sortByHits 10 = .ok (.ifCond .le 75, 3) := by decide +kernel
theorem dX4_sortByHits_13 : decode cX4_sortByHits 13 = .ok (.iconst 0, 1) := by decide +kernel
theorem dX4_sortByHits_14 : decode cX4_sortByHits 14 = .ok (.istore_n 2, 1) := by decide +kernel
theorem dX4_sortByHits_15 : decode cX4_sortByHits 15 = .ok (.iconst 0, 1) := by decide +kernel
theorem dX4_sortByHits_16 : decode cX4_sortByHits 16 = .ok (.istore_n 3, 1) := by decide +kernel
theorem dX4_sortByHits_17 : decode cX4_sortByHits 17 = .ok (.iload_n 3, 1) := by decide +kernel
theorem dX4_sortByHits_18 : decode cX4_sortByHits 18 = .ok (.iconst 1, 1) := by decide +kernel
theorem dX4_sortByHits_19 : decode cX4_sortByHits 19 = .ok (.iadd, 1) := by decide +kernel
theorem dX4_sortByHits_20 : decode cX4_sortByHits 20 = .ok (.aload_n 0, 1) := by decide +kernel
theorem dX4_sortByHits_21 : decode cX4_sortByHits 21 = .ok (.getfield 79, 3) := by decide +kernel
theorem dX4_sortByHits_24 : decode cX4_sortByHits 24 = .ok (.if_icmp .ge 54, 3) := by decide +kernel
theorem dX4_sortByHits_27 : decode cX4_sortByHits 27 = .ok (.aload_n 0, 1) := by decide +kernel
theorem dX4_sortByHits_28 : decode cX4_sortByHits 28 = .ok (.getfield 47, 3) := by decide +kernel
theorem dX4_sortByHits_31 : decode cX4_sortByHits 31 = .ok (.aload_n 0, 1) := by decide +kernel
theorem dX4_sortByHits_32 : decode cX4_sortByHits 32 = .ok (.getfield 25, 3) := by decide +kernel
theorem dX4_sortByHits_35 : decode cX4_sortByHits 35 = .ok (.iload_n 3, 1) := by decide +kernel
theorem dX4_sortByHits_36 : decode cX4_sortByHits 36 = .ok (.iconst 1, 1) := by decide +kernel
theorem dX4_sortByHits_37 : decode cX4_sortByHits 37 = .ok (.iadd, 1) := by decide +kernel
theorem dX4_sortByHits_38 : decode cX4_sortByHits 38 = .ok (.iaload, 1) := by decide +kernel
theorem dX4_sortByHits_39 : decode cX4_sortByHits 39 = .ok (.iaload, 1) := by decide +kernel
theorem dX4_sortByHits_40 : decode cX4_sortByHits 40 = .ok (.aload_n 0, 1) := by decide +kernel
theorem dX4_sortByHits_41 : decode cX4_sortByHits 41 = .ok (.getfield 47, 3) := by decide +kernel
theorem dX4_sortByHits_44 : decode cX4_sortByHits 44 = .ok (.aload_n 0, 1) := by decide +kernel
theorem dX4_sortByHits_45 : decode cX4_sortByHits 45 = .ok (.getfield 25, 3) := by decide +kernel
theorem dX4_sortByHits_48 : decode cX4_sortByHits 48 = .ok (.iload_n 3, 1) := by decide +kernel
theorem dX4_sortByHits_49 : decode cX4_sortByHits 49 = .ok (.iaload, 1) := by decide +kernel
theorem dX4_sortByHits_50 : decode cX4_sortByHits 50 = .ok (.iaload, 1) := by decide +kernel
theorem dX4_sortByHits_51 : decode cX4_sortByHits 51 = .ok (.if_icmp .le 21, 3) := by decide +kernel
theorem dX4_sortByHits_54 : decode cX4_sortByHits 54 = .ok (.aload_n 0, 1) := by decide +kernel
theorem dX4_sortByHits_55 : decode cX4_sortByHits 55 = .ok (.iload_n 3, 1) := by decide +kernel
theorem dX4_sortByHits_56 : decode cX4_sortByHits 56 = .ok (.iload_n 3, 1) := by decide +kernel
theorem dX4_sortByHits_57 : decode cX4_sortByHits 57 = .ok (.iconst 1, 1) := by decide +kernel
theorem dX4_sortByHits_58 : decode cX4_sortByHits 58 = .ok (.iadd, 1) := by decide +kernel
theorem dX4_sortByHits_59 : decode cX4_sortByHits 59 = .ok (.invokevirtual 152, 3) := by decide +kernel
theorem dX4_sortByHits_62 : decode cX4_sortByHits 62 = .ok (.ifCond .ne 10, 3) := by decide +kernel
theorem dX4_sortByHits_65 : decode cX4_sortByHits 65 = .ok (.aload_n 0, 1) := by decide +kernel
theorem dX4_sortByHits_66 : decode cX4_sortByHits 66 = .ok (.invokevirtual 155, 3) := by decide +kernel
theorem dX4_sortByHits_69 : decode cX4_sortByHits 69 = .ok (.iinc 2 1, 3) := by decide +kernel
theorem dX4_sortByHits_72 : decode cX4_sortByHits 72 = .ok (.iinc 3 1, 3) := by decide +kernel
theorem dX4_sortByHits_75 : decode cX4_sortByHits 75 = .ok (.goto (-58), 3) := by decide +kernel
theorem dX4_sortByHits_78 : decode cX4_sortByHits 78 = .ok (.iload_n 1, 1) := by decide +kernel
theorem dX4_sortByHits_79 : decode cX4_sortByHits 79 = .ok (.iload_n 2, 1) := by decide +kernel
theorem dX4_sortByHits_80 : decode cX4_sortByHits 80 = .ok (.iadd, 1) := by decide +kernel
theorem dX4_sortByHits_81 : decode cX4_sortByHits 81 = .ok (.istore_n 1, 1) := by decide +kernel
theorem dX4_sortByHits_82 : decode cX4_sortByHits 82 = .ok (.goto (-73), 3) := by decide +kernel
theorem dX4_sortByHits_85 : decode cX4_sortByHits 85 = .ok (.iload_n 1, 1) := by decide +kernel
theorem dX4_sortByHits_86 : decode cX4_sortByHits 86 = .ok (.ireturn, 1) := by decide +kernel
theorem dX4_changedByRange_0 : decode cX4_changedByRange 0 = .ok (.aload_n 0, 1) := by decide +kernel
theorem dX4_changedByRange_1 : decode cX4_changedByRange 1 = .ok (.iconst 0, 1) := by decide +kernel
theorem dX4_changedByRange_2 : decode cX4_changedByRange 2 = .ok (.putfield 68, 3) := by decide +kernel
theorem dX4_changedByRange_5 : decode cX4_changedByRange 5 = .ok (.aload_n 0, 1) := by decide +kernel
theorem dX4_changedByRange_6 : decode cX4_changedByRange 6 = .ok (.iload_n 1, 1) := by decide +kernel
theorem dX4_changedByRange_7 : decode cX4_changedByRange 7 = .ok (.invokevirtual 93, 3) := by decide +kernel
theorem dX4_changedByRange_10 : decode cX4_changedByRange 10 = .ok (.ifCond .ne 9, 3) := by decide +kernel
theorem dX4_changedByRange_13 : decode cX4_changedByRange 13 = .ok (.aload_n 0, 1) := by decide +kernel
theorem dX4_changedByRange_14 : decode cX4_changedByRange 14 = .ok (.iconst 1, 1) := by decide +kernel
theorem dX4_changedByRange_15 : decode cX4_changedByRange 15 = .ok (.invokevirtual 90, 3) := by decide +kernel
theorem dX4_changedByRange_18 : decode cX4_changedByRange 18 = .ok (.ireturn, 1) := by decide +kernel
theorem dX4_changedByRange_19 : decode cX4_changedByRange 19 = .ok (.iload_n 2, 1) := by decide +kernel
theorem dX4_changedByRange_20 : decode cX4_changedByRange 20 = .ok (.iconst 0, 1) := by decide +kernel
theorem dX4_changedByRange_21 : decode cX4_changedByRange 21 = .ok (.bipush 31, 2) := by decide +kernel
theorem dX4_changedByRange_23 : decode cX4_changedByRange 23 = .ok (.invokestatic 75, 3) := by decide +kernel
theorem dX4_changedByRange_26 : decode cX4_changedByRange 26 = .ok (.ifCond .eq 13, 3) := by decide +kernel
theorem dX4_changedByRange_29 : decode cX4_changedByRange 29 = .ok (.iload_n 3, 1) := by decide +kernel
theorem dX4_changedByRange_30 : decode cX4_changedByRange 30 = .ok (.iload_n 2, 1) := by decide +kernel
theorem dX4_changedByRange_31 : decode cX4_changedByRange 31 = .ok (.bipush 31, 2) := by decide +kernel
theorem dX4_changedByRange_33 : decode cX4_changedByRange 33 = .ok (.invokestatic 75, 3) := by decide +kernel
theorem dX4_changedByRange_36 : decode cX4_changedByRange 36 = .ok (.ifCond .ne 9, 3) := by decide +kernel
theorem dX4_changedByRange_39 : decode cX4_changedByRange 39 = .ok (.aload_n 0, 1) := by decide +kernel
theorem dX4_changedByRange_40 : decode cX4_changedByRange 40 = .ok (.iconst 2, 1) := by decide +kernel
theorem dX4_changedByRange_41 : decode cX4_changedByRange 41 = .ok (.invokevirtual 90, 3) := by decide +kernel
theorem dX4_changedByRange_44 : decode cX4_changedByRange 44 = .ok (.ireturn, 1) := by decide +kernel
theorem dX4_changedByRange_45 : decode cX4_changedByRange 45 = .ok (.aload_n 0, 1) := by decide +kernel
theorem dX4_changedByRange_46 : decode cX4_changedByRange 46 = .ok (.invokevirtual 130, 3) := by decide +kernel
theorem dX4_changedByRange_49 : decode cX4_changedByRange 49 = .ok (.pop, 1) := by decide +kernel
theorem dX4_changedByRange_50 : decode cX4_changedByRange 50 = .ok (.aload_n 0, 1) := by decide +kernel
theorem dX4_changedByRange_51 : decode cX4_changedByRange 51 = .ok (.iload_n 1, 1) := by decide +kernel
theorem dX4_changedByRange_52 : decode cX4_changedByRange 52 = .ok (.iload_n 2, 1) := by decide +kernel
theorem dX4_changedByRange_53 : decode cX4_changedByRange 53 = .ok (.iload_n 3, 1) := by decide +kernel
theorem dX4_changedByRange_54 : decode cX4_changedByRange 54 = .ok (.invokestatic 86, 3) := by decide +kernel
theorem dX4_changedByRange_57 : decode cX4_changedByRange 57 = .ok (.invokevirtual 103, 3) := by decide +kernel
theorem dX4_changedByRange_60 : decode cX4_changedByRange 60 = .ok (.aload_n 0, 1) := by decide +kernel
theorem dX4_changedByRange_61 : decode cX4_changedByRange 61 = .ok (.iconst 1, 1) := by decide +kernel
theorem dX4_changedByRange_62 : decode cX4_changedByRange 62 = .ok (.aload_n 0, 1) := by decide +kernel
theorem dX4_changedByRange_63 : decode cX4_changedByRange 63 = .ok (.getfield 25, 3) := by decide +kernel
theorem dX4_changedByRange_66 : decode cX4_changedByRange 66 = .ok (.aload_n 0, 1) := by decide +kernel
theorem dX4_changedByRange_67 : decode cX4_changedByRange 67 = .ok (.getfield 79, 3) := by decide +kernel
theorem dX4_changedByRange_70 : decode cX4_changedByRange 70 = .ok (.invokevirtual 119, 3) := by decide +kernel
theorem dX4_changedByRange_73 : decode cX4_changedByRange 73 = .ok (.aload_n 0, 1) := by decide +kernel
theorem dX4_changedByRange_74 : decode cX4_changedByRange 74 = .ok (.invokevirtual 134, 3) := by decide +kernel
theorem dX4_changedByRange_77 : decode cX4_changedByRange 77 = .ok (.ireturn, 1) := by decide +kernel
theorem dX4_shadowedShare_0 : decode cX4_shadowedShare 0 = .ok (.aload_n 0, 1) := by decide +kernel
theorem dX4_shadowedShare_1 : decode cX4_shadowedShare 1 = .ok (.iconst 0, 1) := by decide +kernel
theorem dX4_shadowedShare_2 : decode cX4_shadowedShare 2 = .ok (.putfield 68, 3) := by decide +kernel
theorem dX4_shadowedShare_5 : decode cX4_shadowedShare 5 = .ok (.aload_n 0, 1) := by decide +kernel
theorem dX4_shadowedShare_6 : decode cX4_shadowedShare 6 = .ok (.invokevirtual 130, 3) := by decide +kernel
theorem dX4_shadowedShare_9 : decode cX4_shadowedShare 9 = .ok (.pop, 1) := by decide +kernel
theorem dX4_shadowedShare_10 : decode cX4_shadowedShare 10 = .ok (.iconst 0, 1) := by decide +kernel
theorem dX4_shadowedShare_11 : decode cX4_shadowedShare 11 = .ok (.istore_n 1, 1) := by decide +kernel
theorem dX4_shadowedShare_12 : decode cX4_shadowedShare 12 = .ok (.iconst 0, 1) := by decide +kernel
theorem dX4_shadowedShare_13 : decode cX4_shadowedShare 13 = .ok (.istore_n 2, 1) := by decide +kernel
theorem dX4_shadowedShare_14 : decode cX4_shadowedShare 14 = .ok (.iconst 0, 1) := by decide +kernel
theorem dX4_shadowedShare_15 : decode cX4_shadowedShare 15 = .ok (.istore_n 3, 1) := by decide +kernel
theorem dX4_shadowedShare_16 : decode cX4_shadowedShare 16 = .ok (.iload_n 3, 1) := by decide +kernel
theorem dX4_shadowedShare_17 : decode cX4_shadowedShare 17 = .ok (.aload_n 0, 1) := by decide +kernel
theorem dX4_shadowedShare_18 : decode cX4_shadowedShare 18 = .ok (.getfield 79, 3) := by decide +kernel
theorem dX4_shadowedShare_21 : decode cX4_shadowedShare 21 = .ok (.if_icmp .ge 55, 3) := by decide +kernel
theorem dX4_shadowedShare_24 : decode cX4_shadowedShare 24 = .ok (.aload_n 0, 1) := by decide +kernel
theorem dX4_shadowedShare_25 : decode cX4_shadowedShare 25 = .ok (.aload_n 0, 1) := by decide +kernel
theorem dX4_shadowedShare_26 : decode cX4_shadowedShare 26 = .ok (.getfield 25, 3) := by decide +kernel
theorem dX4_shadowedShare_29 : decode cX4_shadowedShare 29 = .ok (.iload_n 3, 1) := by decide +kernel
theorem dX4_shadowedShare_30 : decode cX4_shadowedShare 30 = .ok (.iaload, 1) := by decide +kernel
theorem dX4_shadowedShare_31 : decode cX4_shadowedShare 31 = .ok (.invokevirtual 113, 3) := by decide +kernel
theorem dX4_shadowedShare_34 : decode cX4_shadowedShare 34 = .ok (.istore 4, 2) := by decide +kernel
theorem dX4_shadowedShare_36 : decode cX4_shadowedShare 36 = .ok (.iload_n 1, 1) := by decide +kernel
theorem dX4_shadowedShare_37 : decode cX4_shadowedShare 37 = .ok (.iload 4, 2) := by decide +kernel
theorem dX4_shadowedShare_39 : decode cX4_shadowedShare 39 = .ok (.ifCond .eq 7, 3) := by decide +kernel
theorem dX4_shadowedShare_42 : decode cX4_shadowedShare 42 = .ok (.iconst 1, 1) := by decide +kernel
theorem dX4_shadowedShare_43 : decode cX4_shadowedShare 43 = .ok (.goto 4, 3) := by decide +kernel
theorem dX4_shadowedShare_46 : decode cX4_shadowedShare 46 = .ok (.iconst 0, 1) := by decide +kernel
theorem dX4_shadowedShare_47 : decode cX4_shadowedShare 47 = .ok (.iadd, 1) := by decide +kernel
theorem dX4_shadowedShare_48 : decode cX4_shadowedShare 48 = .ok (.istore_n 1, 1) := by decide +kernel
theorem dX4_shadowedShare_49 : decode cX4_shadowedShare 49 = .ok (.iload_n 2, 1) := by decide +kernel
theorem dX4_shadowedShare_50 : decode cX4_shadowedShare 50 = .ok (.iload 4, 2) := by decide +kernel
theorem dX4_shadowedShare_52 : decode cX4_shadowedShare 52 = .ok (.ifCond .eq 15, 3) := by decide +kernel
theorem dX4_shadowedShare_55 : decode cX4_shadowedShare 55 = .ok (.aload_n 0, 1) := by decide +kernel
theorem dX4_shadowedShare_56 : decode cX4_shadowedShare 56 = .ok (.iload_n 3, 1) := by decide +kernel
theorem dX4_shadowedShare_57 : decode cX4_shadowedShare 57 = .ok (.invokevirtual 147, 3) := by decide +kernel
theorem dX4_shadowedShare_60 : decode cX4_shadowedShare 60 = .ok (.ifCond .ne 7, 3) := by decide +kernel
theorem dX4_shadowedShare_63 : decode cX4_shadowedShare 63 = .ok (.iconst 1, 1) := by decide +kernel
theorem dX4_shadowedShare_64 : decode cX4_shadowedShare 64 = .ok (.goto 4, 3) := by decide +kernel
theorem dX4_shadowedShare_67 : decode cX4_shadowedShare 67 = .ok (.iconst 0, 1) := by decide +kernel
theorem dX4_shadowedShare_68 : decode cX4_shadowedShare 68 = .ok (.iadd, 1) := by decide +kernel
theorem dX4_shadowedShare_69 : decode cX4_shadowedShare 69 = .ok (.istore_n 2, 1) := by decide +kernel
theorem dX4_shadowedShare_70 : decode cX4_shadowedShare 70 = .ok (.iinc 3 1, 3) := by decide +kernel
theorem dX4_shadowedShare_73 : decode cX4_shadowedShare 73 = .ok (.goto (-57), 3) := by decide +kernel
theorem dX4_shadowedShare_76 : decode cX4_shadowedShare 76 = .ok (.iload_n 1, 1) := by decide +kernel
theorem dX4_shadowedShare_77 : decode cX4_shadowedShare 77 = .ok (.ifCond .ne 10, 3) := by decide +kernel
theorem dX4_shadowedShare_80 : decode cX4_shadowedShare 80 = .ok (.aload_n 0, 1) := by decide +kernel
theorem dX4_shadowedShare_81 : decode cX4_shadowedShare 81 = .ok (.iconst 1, 1) := by decide +kernel
theorem dX4_shadowedShare_82 : decode cX4_shadowedShare 82 = .ok (.putfield 68, 3) := by decide +kernel
theorem dX4_shadowedShare_85 : decode cX4_shadowedShare 85 = .ok (.fconst 0, 1) := by decide +kernel
theorem dX4_shadowedShare_86 : decode cX4_shadowedShare 86 = .ok (.freturn, 1) := by decide +kernel
theorem dX4_shadowedShare_87 : decode cX4_shadowedShare 87 = .ok (.iload_n 2, 1) := by decide +kernel
theorem dX4_shadowedShare_88 : decode cX4_shadowedShare 88 = .ok (.i2f, 1) := by decide +kernel
theorem dX4_shadowedShare_89 : decode cX4_shadowedShare 89 = .ok (.iload_n 1, 1) := by decide +kernel
theorem dX4_shadowedShare_90 : decode cX4_shadowedShare 90 = .ok (.i2f, 1) := by decide +kernel
theorem dX4_shadowedShare_91 : decode cX4_shadowedShare 91 = .ok (.fdiv, 1) := by decide +kernel
theorem dX4_shadowedShare_92 : decode cX4_shadowedShare 92 = .ok (.freturn, 1) := by decide +kernel
theorem dX4_meanHits_0 : decode cX4_meanHits 0 = .ok (.aload_n 0, 1) := by decide +kernel
theorem dX4_meanHits_1 : decode cX4_meanHits 1 = .ok (.iconst 0, 1) := by decide +kernel
theorem dX4_meanHits_2 : decode cX4_meanHits 2 = .ok (.putfield 68, 3) := by decide +kernel
theorem dX4_meanHits_5 : decode cX4_meanHits 5 = .ok (.iconst 0, 1) := by decide +kernel
theorem dX4_meanHits_6 : decode cX4_meanHits 6 = .ok (.istore_n 1, 1) := by decide +kernel
theorem dX4_meanHits_7 : decode cX4_meanHits 7 = .ok (.iconst 0, 1) := by decide +kernel
theorem dX4_meanHits_8 : decode cX4_meanHits 8 = .ok (.istore_n 2, 1) := by decide +kernel
theorem dX4_meanHits_9 : decode cX4_meanHits 9 = .ok (.iload_n 2, 1) := by decide +kernel
theorem dX4_meanHits_10 : decode cX4_meanHits 10 = .ok (.aload_n 0, 1) := by decide +kernel
theorem dX4_meanHits_11 : decode cX4_meanHits 11 = .ok (.getfield 79, 3) := by decide +kernel
theorem dX4_meanHits_14 : decode cX4_meanHits 14 = .ok (.if_icmp .ge 23, 3) := by decide +kernel
theorem dX4_meanHits_17 : decode cX4_meanHits 17 = .ok (.iload_n 1, 1) := by decide +kernel
theorem dX4_meanHits_18 : decode cX4_meanHits 18 = .ok (.aload_n 0, 1) := by decide +kernel
theorem dX4_meanHits_19 : decode cX4_meanHits 19 = .ok (.getfield 47, 3) := by decide +kernel
theorem dX4_meanHits_22 : decode cX4_meanHits 22 = .ok (.aload_n 0, 1) := by decide +kernel
theorem dX4_meanHits_23 : decode cX4_meanHits 23 = .ok (.getfield 25, 3) := by decide +kernel
theorem dX4_meanHits_26 : decode cX4_meanHits 26 = .ok (.iload_n 2, 1) := by decide +kernel
theorem dX4_meanHits_27 : decode cX4_meanHits 27 = .ok (.iaload, 1) := by decide +kernel
theorem dX4_meanHits_28 : decode cX4_meanHits 28 = .ok (.iaload, 1) := by decide +kernel
theorem dX4_meanHits_29 : decode cX4_meanHits 29 = .ok (.iadd, 1) := by decide +kernel
theorem dX4_meanHits_30 : decode cX4_meanHits 30 = .ok (.istore_n 1, 1) := by decide +kernel
theorem dX4_meanHits_31 : decode cX4_meanHits 31 = .ok (.iinc 2 1, 3) := by decide +kernel
theorem dX4_meanHits_34 : decode cX4_meanHits 34 = .ok (.goto (-25), 3) := by decide +kernel
theorem dX4_meanHits_37 : decode cX4_meanHits 37 = .ok (.aload_n 0, 1) := by decide +kernel
theorem dX4_meanHits_38 : decode cX4_meanHits 38 = .ok (.getfield 79, 3) := by decide +kernel
theorem dX4_meanHits_41 : decode cX4_meanHits 41 = .ok (.ifCond .ne 10, 3) := by decide +kernel
theorem dX4_meanHits_44 : decode cX4_meanHits 44 = .ok (.aload_n 0, 1) := by decide +kernel
theorem dX4_meanHits_45 : decode cX4_meanHits 45 = .ok (.iconst 1, 1) := by decide +kernel
theorem dX4_meanHits_46 : decode cX4_meanHits 46 = .ok (.putfield 68, 3) := by decide +kernel
theorem dX4_meanHits_49 : decode cX4_meanHits 49 = .ok (.dconst 0, 1) := by decide +kernel
theorem dX4_meanHits_50 : decode cX4_meanHits 50 = .ok (.dreturn, 1) := by decide +kernel
theorem dX4_meanHits_51 : decode cX4_meanHits 51 = .ok (.iload_n 1, 1) := by decide +kernel
theorem dX4_meanHits_52 : decode cX4_meanHits 52 = .ok (.i2d, 1) := by decide +kernel
theorem dX4_meanHits_53 : decode cX4_meanHits 53 = .ok (.aload_n 0, 1) := by decide +kernel
theorem dX4_meanHits_54 : decode cX4_meanHits 54 = .ok (.getfield 79, 3) := by decide +kernel
theorem dX4_meanHits_57 : decode cX4_meanHits 57 = .ok (.i2d, 1) := by decide +kernel
theorem dX4_meanHits_58 : decode cX4_meanHits 58 = .ok (.ddiv, 1) := by decide +kernel
theorem dX4_meanHits_59 : decode cX4_meanHits 59 = .ok (.dreturn, 1) := by decide +kernel
end
section
theorem dL_law_0 : decode cL_law 0 = .ok (.new 8, 3) := by decide +kernel
theorem dL_law_3 : decode cL_law 3 = .ok (.dup, 1) := by decide +kernel
theorem dL_law_4 : decode cL_law 4 = .ok (.invokespecial 121, 3) := by decide +kernel
theorem dL_law_7 : decode cL_law 7 = .ok (.astore_n 1, 1) := by decide +kernel
theorem dL_law_8 : decode cL_law 8 = .ok (.new 122, 3) := by decide +kernel
theorem dL_law_11 : decode cL_law 11 = .ok (.dup, 1) := by decide +kernel
theorem dL_law_12 : decode cL_law 12 = .ok (.invokespecial 124, 3) := by decide +kernel
theorem dL_law_15 : decode cL_law 15 = .ok (.astore_n 2, 1) := by decide +kernel
theorem dL_law_16 : decode cL_law 16 = .ok (.iconst 1, 1) := by decide +kernel
theorem dL_law_17 : decode cL_law 17 = .ok (.newarray .long, 2) := by decide +kernel
theorem dL_law_19 : decode cL_law 19 = .ok (.astore_n 3, 1) := by decide +kernel
theorem dL_law_20 : decode cL_law 20 = .ok (.iconst 1, 1) := by decide +kernel
theorem dL_law_21 : decode cL_law 21 = .ok (.newarray .double, 2) := by decide +kernel
theorem dL_law_23 : decode cL_law 23 = .ok (.astore 4, 2) := by decide +kernel
theorem dL_law_25 : decode cL_law 25 = .ok (.iconst 0, 1) := by decide +kernel
theorem dL_law_26 : decode cL_law 26 = .ok (.istore 5, 2) := by decide +kernel
theorem dL_law_28 : decode cL_law 28 = .ok (.iload 5, 2) := by decide +kernel
theorem dL_law_30 : decode cL_law 30 = .ok (.aload_n 0, 1) := by decide +kernel
theorem dL_law_31 : decode cL_law 31 = .ok (.arraylength, 1) := by decide +kernel
theorem dL_law_32 : decode cL_law 32 = .ok (.bipush 7, 2) := by decide +kernel
theorem dL_law_34 : decode cL_law 34 = .ok (.isub, 1) := by decide +kernel
theorem dL_law_35 : decode cL_law 35 = .ok (.if_icmp .gt 2171, 3) := by decide +kernel
theorem dL_law_38 : decode cL_law 38 = .ok (.aload_n 0, 1) := by decide +kernel
theorem dL_law_39 : decode cL_law 39 = .ok (.iload 5, 2) := by decide +kernel
theorem dL_law_41 : decode cL_law 41 = .ok (.iaload, 1) := by decide +kernel
theorem dL_law_42 : decode cL_law 42 = .ok (.bipush 63, 2) := by decide +kernel
theorem dL_law_44 : decode cL_law 44 = .ok (.iand, 1) := by decide +kernel
theorem dL_law_45 : decode cL_law 45 = .ok (.tableswitch 2155 0 33 #[151, 195, 275, 331, 399, 467, 523, 598, 654, 774, 830, 898, 911, 967, 1030, 1098, 1178, 1258, 1314, 1370, 1426, 1482, 1495, 1551, 1607, 1663, 1726, 1782, 1795, 1863, 1931, 1944, 2024, 2090], 151) := by decide +kernel
theorem dL_law_196 : decode cL_law 196 = .ok (.aload_n 1, 1) := by decide +kernel
theorem dL_law_197 : decode cL_law 197 = .ok (.aload_n 3, 1) := by decide +kernel
theorem dL_law_198 : decode cL_law 198 = .ok (.invokestatic 125, 3) := by decide +kernel
theorem dL_law_201 : decode cL_law 201 = .ok (.istore 6, 2) := by decide +kernel
theorem dL_law_203 : decode cL_law 203 = .ok (.aload_n 2, 1) := by decide +kernel
theorem dL_law_204 : decode cL_law 204 = .ok (.invokevirtual 130, 3) := by decide +kernel
theorem dL_law_207 : decode cL_law 207 = .ok (.istore 7, 2) := by decide +kernel
theorem dL_law_209 : decode cL_law 209 = .ok (.aload_n 2, 1) := by decide +kernel
theorem dL_law_210 : decode cL_law 210 = .ok (.invokevirtual 131, 3) := by decide +kernel
theorem dL_law_213 : decode cL_law 213 = .ok (.iload 6, 2) := by decide +kernel
theorem dL_law_215 : decode cL_law 215 = .ok (.if_icmp .eq 5, 3) := by decide +kernel
theorem dL_law_218 : decode cL_law 218 = .ok (.iconst 0, 1) := by decide +kernel
theorem dL_law_219 : decode cL_law 219 = .ok (.ireturn, 1) := by decide +kernel
theorem dL_law_220 : decode cL_law 220 = .ok (.iload 6, 2) := by decide +kernel
theorem dL_law_222 : decode cL_law 222 = .ok (.ifCond .ne 15, 3) := by decide +kernel
theorem dL_law_225 : decode cL_law 225 = .ok (.aload_n 3, 1) := by decide +kernel
theorem dL_law_226 : decode cL_law 226 = .ok (.iconst 0, 1) := by decide +kernel
theorem dL_law_227 : decode cL_law 227 = .ok (.laload, 1) := by decide +kernel
theorem dL_law_228 : decode cL_law 228 = .ok (.iload 7, 2) := by decide +kernel
theorem dL_law_230 : decode cL_law 230 = .ok (.i2l, 1) := by decide +kernel
theorem dL_law_231 : decode cL_law 231 = .ok (.lcmp, 1) := by decide +kernel
theorem dL_law_232 : decode cL_law 232 = .ok (.ifCond .eq 5, 3) := by decide +kernel
theorem dL_law_235 : decode cL_law 235 = .ok (.iconst 0, 1) := by decide +kernel
theorem dL_law_236 : decode cL_law 236 = .ok (.ireturn, 1) := by decide +kernel
theorem dL_law_237 : decode cL_law 237 = .ok (.goto 1963, 3) := by decide +kernel
theorem dL_law_240 : decode cL_law 240 = .ok (.aload_n 1, 1) := by decide +kernel
theorem dL_law_241 : decode cL_law 241 = .ok (.aload_n 0, 1) := by decide +kernel
theorem dL_law_242 : decode cL_law 242 = .ok (.iload 5, 2) := by decide +kernel
theorem dL_law_244 : decode cL_law 244 = .ok (.iconst 1, 1) := by decide +kernel
theorem dL_law_245 : decode cL_law 245 = .ok (.iadd, 1) := by decide +kernel
theorem dL_law_246 : decode cL_law 246 = .ok (.iaload, 1) := by decide +kernel
theorem dL_law_247 : decode cL_law 247 = .ok (.aload_n 0, 1) := by decide +kernel
theorem dL_law_248 : decode cL_law 248 = .ok (.iload 5, 2) := by decide +kernel
theorem dL_law_250 : decode cL_law 250 = .ok (.iconst 2, 1) := by decide +kernel
theorem dL_law_251 : decode cL_law 251 = .ok (.iadd, 1) := by decide +kernel
theorem dL_law_252 : decode cL_law 252 = .ok (.iaload, 1) := by decide +kernel
theorem dL_law_253 : decode cL_law 253 = .ok (.aload_n 0, 1) := by decide +kernel
theorem dL_law_254 : decode cL_law 254 = .ok (.iload 5, 2) := by decide +kernel
theorem dL_law_256 : decode cL_law 256 = .ok (.iconst 3, 1) := by decide +kernel
theorem dL_law_257 : decode cL_law 257 = .ok (.iadd, 1) := by decide +kernel
theorem dL_law_258 : decode cL_law 258 = .ok (.iaload, 1) := by decide +kernel
theorem dL_law_259 : decode cL_law 259 = .ok (.aload_n 3, 1) := by decide +kernel
theorem dL_law_260 : decode cL_law 260 = .ok (.invokestatic 134, 3) := by decide +kernel
theorem dL_law_263 : decode cL_law 263 = .ok (.istore 6, 2) := by decide +kernel
theorem dL_law_265 : decode cL_law 265 = .ok (.aload_n 2, 1) := by decide +kernel
theorem dL_law_266 : decode cL_law 266 = .ok (.aload_n 0, 1) := by decide +kernel
theorem dL_law_267 : decode cL_law 267 = .ok (.iload 5, 2) := by decide +kernel
theorem dL_law_269 : decode cL_law 269 = .ok (.iconst 1, 1) := by decide +kernel
theorem dL_law_270 : decode cL_law 270 = .ok (.iadd, 1) := by decide +kernel
theorem dL_law_271 : decode cL_law 271 = .ok (.iaload, 1) := by decide +kernel
theorem dL_law_272 : decode cL_law 272 = .ok (.aload_n 0, 1) := by decide +kernel
theorem dL_law_273 : decode cL_law 273 = .ok (.iload 5, 2) := by decide +kernel
theorem dL_law_275 : decode cL_law 275 = .ok (.iconst 2, 1) := by decide +kernel
theorem dL_law_276 : decode cL_law 276 = .ok (.iadd, 1) := by decide +kernel
theorem dL_law_277 : decode cL_law 277 = .ok (.iaload, 1) := by decide +kernel
theorem dL_law_278 : decode cL_law 278 = .ok (.aload_n 0, 1) := by decide +kernel
theorem dL_law_279 : decode cL_law 279 = .ok (.iload 5, 2) := by decide +kernel
theorem dL_law_281 : decode cL_law 281 = .ok (.iconst 3, 1) := by decide +kernel
theorem dL_law_282 : decode cL_law 282 = .ok (.iadd, 1) := by decide +kernel
theorem dL_law_283 : decode cL_law 283 = .ok (.iaload, 1) := by decide +kernel
theorem dL_law_284 : decode cL_law 284 = .ok (.invokevirtual 137, 3) := by decide +kernel
theorem dL_law_287 : decode cL_law 287 = .ok (.istore 7, 2) := by decide +kernel
theorem dL_law_289 : decode cL_law 289 = .ok (.aload_n 2, 1) := by decide +kernel
theorem dL_law_290 : decode cL_law 290 = .ok (.invokevirtual 131, 3) := by decide +kernel
theorem dL_law_293 : decode cL_law 293 = .ok (.iload 6, 2) := by decide +kernel
theorem dL_law_295 : decode cL_law 295 = .ok (.if_icmp .eq 5, 3) := by decide +kernel
theorem dL_law_298 : decode cL_law 298 = .ok (.iconst 0, 1) := by decide +kernel
theorem dL_law_299 : decode cL_law 299 = .ok (.ireturn, 1) := by decide +kernel
theorem dL_law_300 : decode cL_law 300 = .ok (.iload 6, 2) := by decide +kernel
theorem dL_law_302 : decode cL_law 302 = .ok (.ifCond .ne 15, 3) := by decide +kernel
theorem dL_law_305 : decode cL_law 305 = .ok (.aload_n 3, 1) := by decide +kernel
theorem dL_law_306 : decode cL_law 306 = .ok (.iconst 0, 1) := by decide +kernel
theorem dL_law_307 : decode cL_law 307 = .ok (.laload, 1) := by decide +kernel
theorem dL_law_308 : decode cL_law 308 = .ok (.iload 7, 2) := by decide +kernel
theorem dL_law_310 : decode cL_law 310 = .ok (.i2l, 1) := by decide +kernel
theorem dL_law_311 : decode cL_law 311 = .ok (.lcmp, 1) := by decide +kernel
theorem dL_law_312 : decode cL_law 312 = .ok (.ifCond .eq 5, 3) := by decide +kernel
theorem dL_law_315 : decode cL_law 315 = .ok (.iconst 0, 1) := by decide +kernel
theorem dL_law_316 : decode cL_law 316 = .ok (.ireturn, 1) := by decide +kernel
theorem dL_law_317 : decode cL_law 317 = .ok (.goto 1883, 3) := by decide +kernel
theorem dL_law_320 : decode cL_law 320 = .ok (.aload_n 1, 1) := by decide +kernel
theorem dL_law_321 : decode cL_law 321 = .ok (.aload_n 0, 1) := by decide +kernel
theorem dL_law_322 : decode cL_law 322 = .ok (.iload 5, 2) := by decide +kernel
theorem dL_law_324 : decode cL_law 324 = .ok (.iconst 1, 1) := by decide +kernel
theorem dL_law_325 : decode cL_law 325 = .ok (.iadd, 1) := by decide +kernel
theorem dL_law_326 : decode cL_law 326 = .ok (.iaload, 1) := by decide +kernel
theorem dL_law_327 : decode cL_law 327 = .ok (.aload_n 3, 1) := by decide +kernel
theorem dL_law_328 : decode cL_law 328 = .ok (.invokestatic 138, 3) := by decide +kernel
theorem dL_law_331 : decode cL_law 331 = .ok (.istore 6, 2) := by decide +kernel
theorem dL_law_333 : decode cL_law 333 = .ok (.aload_n 2, 1) := by decide +kernel
theorem dL_law_334 : decode cL_law 334 = .ok (.aload_n 0, 1) := by decide +kernel
theorem dL_law_335 : decode cL_law 335 = .ok (.iload 5, 2) := by decide +kernel
theorem dL_law_337 : decode cL_law 337 = .ok (.iconst 1, 1) := by decide +kernel
theorem dL_law_338 : decode cL_law 338 = .ok (.iadd, 1) := by decide +kernel
theorem dL_law_339 : decode cL_law 339 = .ok (.iaload, 1) := by decide +kernel
theorem dL_law_340 : decode cL_law 340 = .ok (.invokevirtual 141, 3) := by decide +kernel
theorem dL_law_343 : decode cL_law 343 = .ok (.istore 7, 2) := by decide +kernel
theorem dL_law_345 : decode cL_law 345 = .ok (.aload_n 2, 1) := by decide +kernel
theorem dL_law_346 : decode cL_law 346 = .ok (.invokevirtual 131, 3) := by decide +kernel
theorem dL_law_349 : decode cL_law 349 = .ok (.iload 6, 2) := by decide +kernel
theorem dL_law_351 : decode cL_law 351 = .ok (.if_icmp .eq 5, 3) := by decide +kernel
theorem dL_law_354 : decode cL_law 354 = .ok (.iconst 0, 1) := by decide +kernel
theorem dL_law_355 : decode cL_law 355 = .ok (.ireturn, 1) := by decide +kernel
theorem dL_law_356 : decode cL_law 356 = .ok (.iload 6, 2) := by decide +kernel
theorem dL_law_358 : decode cL_law 358 = .ok (.ifCond .ne 15, 3) := by decide +kernel
theorem dL_law_361 : decode cL_law 361 = .ok (.aload_n 3, 1) := by decide +kernel
theorem dL_law_362 : decode cL_law 362 = .ok (.iconst 0, 1) := by decide +kernel
theorem dL_law_363 : decode cL_law 363 = .ok (.laload, 1) := by decide +kernel
theorem dL_law_364 : decode cL_law 364 = .ok (.iload 7, 2) := by decide +kernel
theorem dL_law_366 : decode cL_law 366 = .ok (.i2l, 1) := by decide +kernel
theorem dL_law_367 : decode cL_law 367 = .ok (.lcmp, 1) := by decide +kernel
theorem dL_law_368 : decode cL_law 368 = .ok (.ifCond .eq 5, 3) := by decide +kernel
theorem dL_law_371 : decode cL_law 371 = .ok (.iconst 0, 1) := by decide +kernel
theorem dL_law_372 : decode cL_law 372 = .ok (.ireturn, 1) := by decide +kernel
theorem dL_law_373 : decode cL_law 373 = .ok (.goto 1827, 3) := by decide +kernel
theorem dL_law_376 : decode cL_law 376 = .ok (.aload_n 1, 1) := by decide +kernel
theorem dL_law_377 : decode cL_law 377 = .ok (.aload_n 0, 1) := by decide +kernel
theorem dL_law_378 : decode cL_law 378 = .ok (.iload 5, 2) := by decide +kernel
theorem dL_law_380 : decode cL_law 380 = .ok (.iconst 1, 1) := by decide +kernel
theorem dL_law_381 : decode cL_law 381 = .ok (.iadd, 1) := by decide +kernel
theorem dL_law_382 : decode cL_law 382 = .ok (.iaload, 1) := by decide +kernel
theorem dL_law_383 : decode cL_law 383 = .ok (.aload_n 0, 1) := by decide +kernel
theorem dL_law_384 : decode cL_law 384 = .ok (.iload 5, 2) := by decide +kernel
theorem dL_law_386 : decode cL_law 386 = .ok (.iconst 2, 1) := by decide +kernel
theorem dL_law_387 : decode cL_law 387 = .ok (.iadd, 1) := by decide +kernel
theorem dL_law_388 : decode cL_law 388 = .ok (.iaload, 1) := by decide +kernel
theorem dL_law_389 : decode cL_law 389 = .ok (.aload_n 3, 1) := by decide +kernel
theorem dL_law_390 : decode cL_law 390 = .ok (.invokestatic 142, 3) := by decide +kernel
theorem dL_law_393 : decode cL_law 393 = .ok (.istore 6, 2) := by decide +kernel
theorem dL_law_395 : decode cL_law 395 = .ok (.aload_n 2, 1) := by decide +kernel
theorem dL_law_396 : decode cL_law 396 = .ok (.aload_n 0, 1) := by decide +kernel
theorem dL_law_397 : decode cL_law 397 = .ok (.iload 5, 2) := by decide +kernel
theorem dL_law_399 : decode cL_law 399 = .ok (.iconst 1, 1) := by decide +kernel
theorem dL_law_400 : decode cL_law 400 = .ok (.iadd, 1) := by decide +kernel
theorem dL_law_401 : decode cL_law 401 = .ok (.iaload, 1) := by decide +kernel
theorem dL_law_402 : decode cL_law 402 = .ok (.aload_n 0, 1) := by decide +kernel
theorem dL_law_403 : decode cL_law 403 = .ok (.iload 5, 2) := by decide +kernel
theorem dL_law_405 : decode cL_law 405 = .ok (.iconst 2, 1) := by decide +kernel
theorem dL_law_406 : decode cL_law 406 = .ok (.iadd, 1) := by decide +kernel
theorem dL_law_407 : decode cL_law 407 = .ok (.iaload, 1) := by decide +kernel
theorem dL_law_408 : decode cL_law 408 = .ok (.invokevirtual 145, 3) := by decide +kernel
theorem dL_law_411 : decode cL_law 411 = .ok (.istore 7, 2) := by decide +kernel
theorem dL_law_413 : decode cL_law 413 = .ok (.aload_n 2, 1) := by decide +kernel
theorem dL_law_414 : decode cL_law 414 = .ok (.invokevirtual 131, 3) := by decide +kernel
theorem dL_law_417 : decode cL_law 417 = .ok (.iload 6, 2) := by decide +kernel
theorem dL_law_419 : decode cL_law 419 = .ok (.if_icmp .eq 5, 3) := by decide +kernel
theorem dL_law_422 : decode cL_law 422 = .ok (.iconst 0, 1) := by decide +kernel
theorem dL_law_423 : decode cL_law 423 = .ok (.ireturn, 1) := by decide +kernel
theorem dL_law_424 : decode cL_law 424 = .ok (.iload 6, 2) := by decide +kernel
theorem dL_law_426 : decode cL_law 426 = .ok (.ifCond .ne 15, 3) := by decide +kernel
theorem dL_law_429 : decode cL_law 429 = .ok (.aload_n 3, 1) := by decide +kernel
theorem dL_law_430 : decode cL_law 430 = .ok (.iconst 0, 1) := by decide +kernel
theorem dL_law_431 : decode cL_law 431 = .ok (.laload, 1) := by decide +kernel
theorem dL_law_432 : decode cL_law 432 = .ok (.iload 7, 2) := by decide +kernel
theorem dL_law_434 : decode cL_law 434 = .ok (.i2l, 1) := by decide +kernel
theorem dL_law_435 : decode cL_law 435 = .ok (.lcmp, 1) := by decide +kernel
theorem dL_law_436 : decode cL_law 436 = .ok (.ifCond .eq 5, 3) := by decide +kernel
theorem dL_law_439 : decode cL_law 439 = .ok (.iconst 0, 1) := by decide +kernel
theorem dL_law_440 : decode cL_law 440 = .ok (.ireturn, 1) := by decide +kernel
theorem dL_law_441 : decode cL_law 441 = .ok (.goto 1759, 3) := by decide +kernel
theorem dL_law_444 : decode cL_law 444 = .ok (.aload_n 1, 1) := by decide +kernel
theorem dL_law_445 : decode cL_law 445 = .ok (.aload_n 0, 1) := by decide +kernel
theorem dL_law_446 : decode cL_law 446 = .ok (.iload 5, 2) := by decide +kernel
theorem dL_law_448 : decode cL_law 448 = .ok (.iconst 1, 1) := by decide +kernel
theorem dL_law_449 : decode cL_law 449 = .ok (.iadd, 1) := by decide +kernel
theorem dL_law_450 : decode cL_law 450 = .ok (.iaload, 1) := by decide +kernel
theorem dL_law_451 : decode cL_law 451 = .ok (.aload_n 0, 1) := by decide +kernel
theorem dL_law_452 : decode cL_law 452 = .ok (.iload 5, 2) := by decide +kernel
theorem dL_law_454 : decode cL_law 454 = .ok (.iconst 2, 1) := by decide +kernel
theorem dL_law_455 : decode cL_law 455 = .ok (.iadd, 1) := by decide +kernel
theorem dL_law_456 : decode cL_law 456 = .ok (.iaload, 1) := by decide +kernel
theorem dL_law_457 : decode cL_law 457 = .ok (.aload_n 3, 1) := by decide +kernel
theorem dL_law_458 : decode cL_law 458 = .ok (.invokestatic 146, 3) := by decide +kernel
theorem dL_law_461 : decode cL_law 461 = .ok (.istore 6, 2) := by decide +kernel
theorem dL_law_463 : decode cL_law 463 = .ok (.aload_n 2, 1) := by decide +kernel
theorem dL_law_464 : decode cL_law 464 = .ok (.aload_n 0, 1) := by decide +kernel
theorem dL_law_465 : decode cL_law 465 = .ok (.iload 5, 2) := by decide +kernel
theorem dL_law_467 : decode cL_law 467 = .ok (.iconst 1, 1) := by decide +kernel
theorem dL_law_468 : decode cL_law 468 = .ok (.iadd, 1) := by decide +kernel
theorem dL_law_469 : decode cL_law 469 = .ok (.iaload, 1) := by decide +kernel
theorem dL_law_470 : decode cL_law 470 = .ok (.aload_n 0, 1) := by decide +kernel
theorem dL_law_471 : decode cL_law 471 = .ok (.iload 5, 2) := by decide +kernel
theorem dL_law_473 : decode cL_law 473 = .ok (.iconst 2, 1) := by decide +kernel
theorem dL_law_474 : decode cL_law 474 = .ok (.iadd, 1) := by decide +kernel
theorem dL_law_475 : decode cL_law 475 = .ok (.iaload, 1) := by decide +kernel
theorem dL_law_476 : decode cL_law 476 = .ok (.invokevirtual 148, 3) := by decide +kernel
theorem dL_law_479 : decode cL_law 479 = .ok (.istore 7, 2) := by decide +kernel
theorem dL_law_481 : decode cL_law 481 = .ok (.aload_n 2, 1) := by decide +kernel
theorem dL_law_482 : decode cL_law 482 = .ok (.invokevirtual 131, 3) := by decide +kernel
theorem dL_law_485 : decode cL_law 485 = .ok (.iload 6, 2) := by decide +kernel
theorem dL_law_487 : decode cL_law 487 = .ok (.if_icmp .eq 5, 3) := by decide +kernel
theorem dL_law_490 : decode cL_law 490 = .ok (.iconst 0, 1) := by decide +kernel
theorem dL_law_491 : decode cL_law 491 = .ok (.ireturn, 1) := by decide +kernel
theorem dL_law_492 : decode cL_law 492 = .ok (.iload 6, 2) := by decide +kernel
theorem dL_law_494 : decode cL_law 494 = .ok (.ifCond .ne 15, 3) := by decide +kernel
theorem dL_law_497 : decode cL_law 497 = .ok (.aload_n 3, 1) := by decide +kernel
theorem dL_law_498 : decode cL_law 498 = .ok (.iconst 0, 1) := by decide +kernel
theorem dL_law_499 : decode cL_law 499 = .ok (.laload, 1) := by decide +kernel
theorem dL_law_500 : decode cL_law 500 = .ok (.iload 7, 2) := by decide +kernel
theorem dL_law_502 : decode cL_law 502 = .ok (.i2l, 1) := by decide +kernel
theorem dL_law_503 : decode cL_law 503 = .ok (.lcmp, 1) := by decide +kernel
theorem dL_law_504 : decode cL_law 504 = .ok (.ifCond .eq 5, 3) := by decide +kernel
theorem dL_law_507 : decode cL_law 507 = .ok (.iconst 0, 1) := by decide +kernel
theorem dL_law_508 : decode cL_law 508 = .ok (.ireturn, 1) := by decide +kernel
theorem dL_law_509 : decode cL_law 509 = .ok (.goto 1691, 3) := by decide +kernel
theorem dL_law_512 : decode cL_law 512 = .ok (.aload_n 1, 1) := by decide +kernel
theorem dL_law_513 : decode cL_law 513 = .ok (.aload_n 0, 1) := by decide +kernel
theorem dL_law_514 : decode cL_law 514 = .ok (.iload 5, 2) := by decide +kernel
theorem dL_law_516 : decode cL_law 516 = .ok (.iconst 1, 1) := by decide +kernel
theorem dL_law_517 : decode cL_law 517 = .ok (.iadd, 1) := by decide +kernel
theorem dL_law_518 : decode cL_law 518 = .ok (.iaload, 1) := by decide +kernel
theorem dL_law_519 : decode cL_law 519 = .ok (.aload_n 3, 1) := by decide +kernel
theorem dL_law_520 : decode cL_law 520 = .ok (.invokestatic 149, 3) := by decide +kernel
theorem dL_law_523 : decode cL_law 523 = .ok (.istore 6, 2) := by decide +kernel
theorem dL_law_525 : decode cL_law 525 = .ok (.aload_n 2, 1) := by decide +kernel
theorem dL_law_526 : decode cL_law 526 = .ok (.aload_n 0, 1) := by decide +kernel
theorem dL_law_527 : decode cL_law 527 = .ok (.iload 5, 2) := by decide +kernel
theorem dL_law_529 : decode cL_law 529 = .ok (.iconst 1, 1) := by decide +kernel
theorem dL_law_530 : decode cL_law 530 = .ok (.iadd, 1) := by decide +kernel
theorem dL_law_531 : decode cL_law 531 = .ok (.iaload, 1) := by decide +kernel
theorem dL_law_532 : decode cL_law 532 = .ok (.invokevirtual 151, 3) := by decide +kernel
theorem dL_law_535 : decode cL_law 535 = .ok (.istore 7, 2) := by decide +kernel
theorem dL_law_537 : decode cL_law 537 = .ok (.aload_n 2, 1) := by decide +kernel
theorem dL_law_538 : decode cL_law 538 = .ok (.invokevirtual 131, 3) := by decide +kernel
theorem dL_law_541 : decode cL_law 541 = .ok (.iload 6, 2) := by decide +kernel
theorem dL_law_543 : decode cL_law 543 = .ok (.if_icmp .eq 5, 3) := by decide +kernel
theorem dL_law_546 : decode cL_law 546 = .ok (.iconst 0, 1) := by decide +kernel
theorem dL_law_547 : decode cL_law 547 = .ok (.ireturn, 1) := by decide +kernel
theorem dL_law_548 : decode cL_law 548 = .ok (.iload 6, 2) := by decide +kernel
theorem dL_law_550 : decode cL_law 550 = .ok (.ifCond .ne 15, 3) := by decide +kernel
theorem dL_law_553 : decode cL_law 553 = .ok (.aload_n 3, 1) := by decide +kernel
theorem dL_law_554 : decode cL_law 554 = .ok (.iconst 0, 1) := by decide +kernel
theorem dL_law_555 : decode cL_law 555 = .ok (.laload, 1) := by decide +kernel
theorem dL_law_556 : decode cL_law 556 = .ok (.iload 7, 2) := by decide +kernel
theorem dL_law_558 : decode cL_law 558 = .ok (.i2l, 1) := by decide +kernel
theorem dL_law_559 : decode cL_law 559 = .ok (.lcmp, 1) := by decide +kernel
theorem dL_law_560 : decode cL_law 560 = .ok (.ifCond .eq 5, 3) := by decide +kernel
theorem dL_law_563 : decode cL_law 563 = .ok (.iconst 0, 1) := by decide +kernel
theorem dL_law_564 : decode cL_law 564 = .ok (.ireturn, 1) := by decide +kernel
theorem dL_law_565 : decode cL_law 565 = .ok (.goto 1635, 3) := by decide +kernel
theorem dL_law_568 : decode cL_law 568 = .ok (.aload_n 1, 1) := by decide +kernel
theorem dL_law_569 : decode cL_law 569 = .ok (.aload_n 0, 1) := by decide +kernel
theorem dL_law_570 : decode cL_law 570 = .ok (.iload 5, 2) := by decide +kernel
theorem dL_law_572 : decode cL_law 572 = .ok (.iconst 1, 1) := by decide +kernel
theorem dL_law_573 : decode cL_law 573 = .ok (.iadd, 1) := by decide +kernel
theorem dL_law_574 : decode cL_law 574 = .ok (.iaload, 1) := by decide +kernel
theorem dL_law_575 : decode cL_law 575 = .ok (.aload_n 0, 1) := by decide +kernel
theorem dL_law_576 : decode cL_law 576 = .ok (.iload 5, 2) := by decide +kernel
theorem dL_law_578 : decode cL_law 578 = .ok (.iconst 2, 1) := by decide +kernel
theorem dL_law_579 : decode cL_law 579 = .ok (.iadd, 1) := by decide +kernel
theorem dL_law_580 : decode cL_law 580 = .ok (.iaload, 1) := by decide +kernel
theorem dL_law_581 : decode cL_law 581 = .ok (.aload_n 3, 1) := by decide +kernel
theorem dL_law_582 : decode cL_law 582 = .ok (.invokestatic 152, 3) := by decide +kernel
theorem dL_law_585 : decode cL_law 585 = .ok (.istore 6, 2) := by decide +kernel
theorem dL_law_587 : decode cL_law 587 = .ok (.aload_n 2, 1) := by decide +kernel
theorem dL_law_588 : decode cL_law 588 = .ok (.aload_n 0, 1) := by decide +kernel
theorem dL_law_589 : decode cL_law 589 = .ok (.iload 5, 2) := by decide +kernel
theorem dL_law_591 : decode cL_law 591 = .ok (.iconst 1, 1) := by decide +kernel
theorem dL_law_592 : decode cL_law 592 = .ok (.iadd, 1) := by decide +kernel
theorem dL_law_593 : decode cL_law 593 = .ok (.iaload, 1) := by decide +kernel
theorem dL_law_594 : decode cL_law 594 = .ok (.aload_n 0, 1) := by decide +kernel
theorem dL_law_595 : decode cL_law 595 = .ok (.iload 5, 2) := by decide +kernel
theorem dL_law_597 : decode cL_law 597 = .ok (.iconst 2, 1) := by decide +kernel
theorem dL_law_598 : decode cL_law 598 = .ok (.iadd, 1) := by decide +kernel
theorem dL_law_599 : decode cL_law 599 = .ok (.iaload, 1) := by decide +kernel
theorem dL_law_600 : decode cL_law 600 = .ok (.invokevirtual 154, 3) := by decide +kernel
theorem dL_law_603 : decode cL_law 603 = .ok (.istore 7, 2) := by decide +kernel
theorem dL_law_605 : decode cL_law 605 = .ok (.aload_n 2, 1) := by decide +kernel
theorem dL_law_606 : decode cL_law 606 = .ok (.invokevirtual 131, 3) := by decide +kernel
theorem dL_law_609 : decode cL_law 609 = .ok (.iload 6, 2) := by decide +kernel
theorem dL_law_611 : decode cL_law 611 = .ok (.if_icmp .eq 5, 3) := by decide +kernel
theorem dL_law_614 : decode cL_law 614 = .ok (.iconst 0, 1) := by decide +kernel
theorem dL_law_615 : decode cL_law 615 = .ok (.ireturn, 1) := by decide +kernel
theorem dL_law_616 : decode cL_law 616 = .ok (.iload 6, 2) := by decide +kernel
theorem dL_law_618 : decode cL_law 618 = .ok (.ifCond .ne 22, 3) := by decide +kernel
theorem dL_law_621 : decode cL_law 621 = .ok (.aload_n 3, 1) := by decide +kernel
theorem dL_law_622 : decode cL_law 622 = .ok (.iconst 0, 1) := by decide +kernel
theorem dL_law_623 : decode cL_law 623 = .ok (.laload, 1) := by decide +kernel
theorem dL_law_624 : decode cL_law 624 = .ok (.iload 7, 2) := by decide +kernel
theorem dL_law_626 : decode cL_law 626 = .ok (.ifCond .eq 7, 3) := by decide +kernel
theorem dL_law_629 : decode cL_law 629 = .ok (.lconst 1, 1) := by decide +kernel
theorem dL_law_630 : decode cL_law 630 = .ok (.goto 4, 3) := by decide +kernel
theorem dL_law_633 : decode cL_law 633 = .ok (.lconst 0, 1) := by decide +kernel
theorem dL_law_634 : decode cL_law 634 = .ok (.lcmp, 1) := by decide +kernel
theorem dL_law_635 : decode cL_law 635 = .ok (.ifCond .eq 5, 3) := by decide +kernel
theorem dL_law_638 : decode cL_law 638 = .ok (.iconst 0, 1) := by decide +kernel
theorem dL_law_639 : decode cL_law 639 = .ok (.ireturn, 1) := by decide +kernel
theorem dL_law_640 : decode cL_law 640 = .ok (.goto 1560, 3) := by decide +kernel
theorem dL_law_643 : decode cL_law 643 = .ok (.aload_n 1, 1) := by decide +kernel
theorem dL_law_644 : decode cL_law 644 = .ok (.aload_n 0, 1) := by decide +kernel
theorem dL_law_645 : decode cL_law 645 = .ok (.iload 5, 2) := by decide +kernel
theorem dL_law_647 : decode cL_law 647 = .ok (.iconst 1, 1) := by decide +kernel
theorem dL_law_648 : decode cL_law 648 = .ok (.iadd, 1) := by decide +kernel
theorem dL_law_649 : decode cL_law 649 = .ok (.iaload, 1) := by decide +kernel
theorem dL_law_650 : decode cL_law 650 = .ok (.aload_n 3, 1) := by decide +kernel
theorem dL_law_651 : decode cL_law 651 = .ok (.invokestatic 155, 3) := by decide +kernel
theorem dL_law_654 : decode cL_law 654 = .ok (.istore 6, 2) := by decide +kernel
theorem dL_law_656 : decode cL_law 656 = .ok (.aload_n 2, 1) := by decide +kernel
theorem dL_law_657 : decode cL_law 657 = .ok (.aload_n 0, 1) := by decide +kernel
theorem dL_law_658 : decode cL_law 658 = .ok (.iload 5, 2) := by decide +kernel
theorem dL_law_660 : decode cL_law 660 = .ok (.iconst 1, 1) := by decide +kernel
theorem dL_law_661 : decode cL_law 661 = .ok (.iadd, 1) := by decide +kernel
theorem dL_law_662 : decode cL_law 662 = .ok (.iaload, 1) := by decide +kernel
theorem dL_law_663 : decode cL_law 663 = .ok (.invokevirtual 157, 3) := by decide +kernel
theorem dL_law_666 : decode cL_law 666 = .ok (.istore 7, 2) := by decide +kernel
theorem dL_law_668 : decode cL_law 668 = .ok (.aload_n 2, 1) := by decide +kernel
theorem dL_law_669 : decode cL_law 669 = .ok (.invokevirtual 131, 3) := by decide +kernel
theorem dL_law_672 : decode cL_law 672 = .ok (.iload 6, 2) := by decide +kernel
theorem dL_law_674 : decode cL_law 674 = .ok (.if_icmp .eq 5, 3) := by decide +kernel
theorem dL_law_677 : decode cL_law 677 = .ok (.iconst 0, 1) := by decide +kernel
theorem dL_law_678 : decode cL_law 678 = .ok (.ireturn, 1) := by decide +kernel
theorem dL_law_679 : decode cL_law 679 = .ok (.iload 6, 2) := by decide +kernel
theorem dL_law_681 : decode cL_law 681 = .ok (.ifCond .ne 15, 3) := by decide +kernel
theorem dL_law_684 : decode cL_law 684 = .ok (.aload_n 3, 1) := by decide +kernel
theorem dL_law_685 : decode cL_law 685 = .ok (.iconst 0, 1) := by decide +kernel
theorem dL_law_686 : decode cL_law 686 = .ok (.laload, 1) := by decide +kernel
theorem dL_law_687 : decode cL_law 687 = .ok (.iload 7, 2) := by decide +kernel
theorem dL_law_689 : decode cL_law 689 = .ok (.i2l, 1) := by decide +kernel
theorem dL_law_690 : decode cL_law 690 = .ok (.lcmp, 1) := by decide +kernel
theorem dL_law_691 : decode cL_law 691 = .ok (.ifCond .eq 5, 3) := by decide +kernel
theorem dL_law_694 : decode cL_law 694 = .ok (.iconst 0, 1) := by decide +kernel
theorem dL_law_695 : decode cL_law 695 = .ok (.ireturn, 1) := by decide +kernel
theorem dL_law_696 : decode cL_law 696 = .ok (.goto 1504, 3) := by decide +kernel
theorem dL_law_699 : decode cL_law 699 = .ok (.aload_n 1, 1) := by decide +kernel
theorem dL_law_700 : decode cL_law 700 = .ok (.aload_n 0, 1) := by decide +kernel
theorem dL_law_701 : decode cL_law 701 = .ok (.iload 5, 2) := by decide +kernel
theorem dL_law_703 : decode cL_law 703 = .ok (.iconst 1, 1) := by decide +kernel
theorem dL_law_704 : decode cL_law 704 = .ok (.iadd, 1) := by decide +kernel
theorem dL_law_705 : decode cL_law 705 = .ok (.iaload, 1) := by decide +kernel
theorem dL_law_706 : decode cL_law 706 = .ok (.aload_n 0, 1) := by decide +kernel
theorem dL_law_707 : decode cL_law 707 = .ok (.iload 5, 2) := by decide +kernel
theorem dL_law_709 : decode cL_law 709 = .ok (.iconst 2, 1) := by decide +kernel
theorem dL_law_710 : decode cL_law 710 = .ok (.iadd, 1) := by decide +kernel
theorem dL_law_711 : decode cL_law 711 = .ok (.iaload, 1) := by decide +kernel
theorem dL_law_712 : decode cL_law 712 = .ok (.i2c, 1) := by decide +kernel
theorem dL_law_713 : decode cL_law 713 = .ok (.aload_n 0, 1) := by decide +kernel
theorem dL_law_714 : decode cL_law 714 = .ok (.iload 5, 2) := by decide +kernel
theorem dL_law_716 : decode cL_law 716 = .ok (.iconst 3, 1) := by decide +kernel
theorem dL_law_717 : decode cL_law 717 = .ok (.iadd, 1) := by decide +kernel
theorem dL_law_718 : decode cL_law 718 = .ok (.iaload, 1) := by decide +kernel
theorem dL_law_719 : decode cL_law 719 = .ok (.aload_n 0, 1) := by decide +kernel
theorem dL_law_720 : decode cL_law 720 = .ok (.iload 5, 2) := by decide +kernel
theorem dL_law_722 : decode cL_law 722 = .ok (.iconst 4, 1) := by decide +kernel
theorem dL_law_723 : decode cL_law 723 = .ok (.iadd, 1) := by decide +kernel
theorem dL_law_724 : decode cL_law 724 = .ok (.iaload, 1) := by decide +kernel
theorem dL_law_725 : decode cL_law 725 = .ok (.aload_n 0, 1) := by decide +kernel
theorem dL_law_726 : decode cL_law 726 = .ok (.iload 5, 2) := by decide +kernel
theorem dL_law_728 : decode cL_law 728 = .ok (.iconst 5, 1) := by decide +kernel
theorem dL_law_729 : decode cL_law 729 = .ok (.iadd, 1) := by decide +kernel
theorem dL_law_730 : decode cL_law 730 = .ok (.iaload, 1) := by decide +kernel
theorem dL_law_731 : decode cL_law 731 = .ok (.aload_n 0, 1) := by decide +kernel
theorem dL_law_732 : decode cL_law 732 = .ok (.iload 5, 2) := by decide +kernel
theorem dL_law_734 : decode cL_law 734 = .ok (.bipush 6, 2) := by decide +kernel
theorem dL_law_736 : decode cL_law 736 = .ok (.iadd, 1) := by decide +kernel
theorem dL_law_737 : decode cL_law 737 = .ok (.iaload, 1) := by decide +kernel
theorem dL_law_738 : decode cL_law 738 = .ok (.aload_n 3, 1) := by decide +kernel
theorem dL_law_739 : decode cL_law 739 = .ok (.invokestatic 158, 3) := by decide +kernel
theorem dL_law_742 : decode cL_law 742 = .ok (.istore 6, 2) := by decide +kernel
theorem dL_law_744 : decode cL_law 744 = .ok (.aload_n 2, 1) := by decide +kernel
theorem dL_law_745 : decode cL_law 745 = .ok (.aload_n 0, 1) := by decide +kernel
theorem dL_law_746 : decode cL_law 746 = .ok (.iload 5, 2) := by decide +kernel
theorem dL_law_748 : decode cL_law 748 = .ok (.iconst 1, 1) := by decide +kernel
theorem dL_law_749 : decode cL_law 749 = .ok (.iadd, 1) := by decide +kernel
theorem dL_law_750 : decode cL_law 750 = .ok (.iaload, 1) := by decide +kernel
theorem dL_law_751 : decode cL_law 751 = .ok (.aload_n 0, 1) := by decide +kernel
theorem dL_law_752 : decode cL_law 752 = .ok (.iload 5, 2) := by decide +kernel
theorem dL_law_754 : decode cL_law 754 = .ok (.iconst 2, 1) := by decide +kernel
theorem dL_law_755 : decode cL_law 755 = .ok (.iadd, 1) := by decide +kernel
theorem dL_law_756 : decode cL_law 756 = .ok (.iaload, 1) := by decide +kernel
theorem dL_law_757 : decode cL_law 757 = .ok (.i2c, 1) := by decide +kernel
theorem dL_law_758 : decode cL_law 758 = .ok (.aload_n 0, 1) := by decide +kernel
theorem dL_law_759 : decode cL_law 759 = .ok (.iload 5, 2) := by decide +kernel
theorem dL_law_761 : decode cL_law 761 = .ok (.iconst 3, 1) := by decide +kernel
theorem dL_law_762 : decode cL_law 762 = .ok (.iadd, 1) := by decide +kernel
theorem dL_law_763 : decode cL_law 763 = .ok (.iaload, 1) := by decide +kernel
theorem dL_law_764 : decode cL_law 764 = .ok (.aload_n 0, 1) := by decide +kernel
theorem dL_law_765 : decode cL_law 765 = .ok (.iload 5, 2) := by decide +kernel
theorem dL_law_767 : decode cL_law 767 = .ok (.iconst 4, 1) := by decide +kernel
theorem dL_law_768 : decode cL_law 768 = .ok (.iadd, 1) := by decide +kernel
theorem dL_law_769 : decode cL_law 769 = .ok (.iaload, 1) := by decide +kernel
theorem dL_law_770 : decode cL_law 770 = .ok (.aload_n 0, 1) := by decide +kernel
theorem dL_law_771 : decode cL_law 771 = .ok (.iload 5, 2) := by decide +kernel
theorem dL_law_773 : decode cL_law 773 = .ok (.iconst 5, 1) := by decide +kernel
theorem dL_law_774 : decode cL_law 774 = .ok (.iadd, 1) := by decide +kernel
theorem dL_law_775 : decode cL_law 775 = .ok (.iaload, 1) := by decide +kernel
theorem dL_law_776 : decode cL_law 776 = .ok (.aload_n 0, 1) := by decide +kernel
theorem dL_law_777 : decode cL_law 777 = .ok (.iload 5, 2) := by decide +kernel
theorem dL_law_779 : decode cL_law 779 = .ok (.bipush 6, 2) := by decide +kernel
theorem dL_law_781 : decode cL_law 781 = .ok (.iadd, 1) := by decide +kernel
theorem dL_law_782 : decode cL_law 782 = .ok (.iaload, 1) := by decide +kernel
theorem dL_law_783 : decode cL_law 783 = .ok (.invokevirtual 161, 3) := by decide +kernel
theorem dL_law_786 : decode cL_law 786 = .ok (.istore 7, 2) := by decide +kernel
theorem dL_law_788 : decode cL_law 788 = .ok (.aload_n 2, 1) := by decide +kernel
theorem dL_law_789 : decode cL_law 789 = .ok (.invokevirtual 131, 3) := by decide +kernel
theorem dL_law_792 : decode cL_law 792 = .ok (.iload 6, 2) := by decide +kernel
theorem dL_law_794 : decode cL_law 794 = .ok (.if_icmp .eq 5, 3) := by decide +kernel
theorem dL_law_797 : decode cL_law 797 = .ok (.iconst 0, 1) := by decide +kernel
theorem dL_law_798 : decode cL_law 798 = .ok (.ireturn, 1) := by decide +kernel
theorem dL_law_799 : decode cL_law 799 = .ok (.iload 6, 2) := by decide +kernel
theorem dL_law_801 : decode cL_law 801 = .ok (.ifCond .ne 15, 3) := by decide +kernel
theorem dL_law_804 : decode cL_law 804 = .ok (.aload_n 3, 1) := by decide +kernel
theorem dL_law_805 : decode cL_law 805 = .ok (.iconst 0, 1) := by decide +kernel
theorem dL_law_806 : decode cL_law 806 = .ok (.laload, 1) := by decide +kernel
theorem dL_law_807 : decode cL_law 807 = .ok (.iload 7, 2) := by decide +kernel
theorem dL_law_809 : decode cL_law 809 = .ok (.i2l, 1) := by decide +kernel
theorem dL_law_810 : decode cL_law 810 = .ok (.lcmp, 1) := by decide +kernel
theorem dL_law_811 : decode cL_law 811 = .ok (.ifCond .eq 5, 3) := by decide +kernel
theorem dL_law_814 : decode cL_law 814 = .ok (.iconst 0, 1) := by decide +kernel
theorem dL_law_815 : decode cL_law 815 = .ok (.ireturn, 1) := by decide +kernel
theorem dL_law_816 : decode cL_law 816 = .ok (.goto 1384, 3) := by decide +kernel
theorem dL_law_819 : decode cL_law 819 = .ok (.aload_n 1, 1) := by decide +kernel
theorem dL_law_820 : decode cL_law 820 = .ok (.aload_n 0, 1) := by decide +kernel
theorem dL_law_821 : decode cL_law 821 = .ok (.iload 5, 2) := by decide +kernel
theorem dL_law_823 : decode cL_law 823 = .ok (.iconst 1, 1) := by decide +kernel
theorem dL_law_824 : decode cL_law 824 = .ok (.iadd, 1) := by decide +kernel
theorem dL_law_825 : decode cL_law 825 = .ok (.iaload, 1) := by decide +kernel
theorem dL_law_826 : decode cL_law 826 = .ok (.aload_n 3, 1) := by decide +kernel
theorem dL_law_827 : decode cL_law 827 = .ok (.invokestatic 162, 3) := by decide +kernel
theorem dL_law_830 : decode cL_law 830 = .ok (.istore 6, 2) := by decide +kernel
theorem dL_law_832 : decode cL_law 832 = .ok (.aload_n 2, 1) := by decide +kernel
theorem dL_law_833 : decode cL_law 833 = .ok (.aload_n 0, 1) := by decide +kernel
theorem dL_law_834 : decode cL_law 834 = .ok (.iload 5, 2) := by decide +kernel
theorem dL_law_836 : decode cL_law 836 = .ok (.iconst 1, 1) := by decide +kernel
theorem dL_law_837 : decode cL_law 837 = .ok (.iadd, 1) := by decide +kernel
theorem dL_law_838 : decode cL_law 838 = .ok (.iaload, 1) := by decide +kernel
theorem dL_law_839 : decode cL_law 839 = .ok (.invokevirtual 164, 3) := by decide +kernel
theorem dL_law_842 : decode cL_law 842 = .ok (.istore 7, 2) := by decide +kernel
theorem dL_law_844 : decode cL_law 844 = .ok (.aload_n 2, 1) := by decide +kernel
theorem dL_law_845 : decode cL_law 845 = .ok (.invokevirtual 131, 3) := by decide +kernel
theorem dL_law_848 : decode cL_law 848 = .ok (.iload 6, 2) := by decide +kernel
theorem dL_law_850 : decode cL_law 850 = .ok (.if_icmp .eq 5, 3) := by decide +kernel
theorem dL_law_853 : decode cL_law 853 = .ok (.iconst 0, 1) := by decide +kernel
theorem dL_law_854 : decode cL_law 854 = .ok (.ireturn, 1) := by decide +kernel
theorem dL_law_855 : decode cL_law 855 = .ok (.iload 6, 2) := by decide +kernel
theorem dL_law_857 : decode cL_law 857 = .ok (.ifCond .ne 15, 3) := by decide +kernel
theorem dL_law_860 : decode cL_law 860 = .ok (.aload_n 3, 1) := by decide +kernel
theorem dL_law_861 : decode cL_law 861 = .ok (.iconst 0, 1) := by decide +kernel
theorem dL_law_862 : decode cL_law 862 = .ok (.laload, 1) := by decide +kernel
theorem dL_law_863 : decode cL_law 863 = .ok (.iload 7, 2) := by decide +kernel
theorem dL_law_865 : decode cL_law 865 = .ok (.i2l, 1) := by decide +kernel
theorem dL_law_866 : decode cL_law 866 = .ok (.lcmp, 1) := by decide +kernel
theorem dL_law_867 : decode cL_law 867 = .ok (.ifCond .eq 5, 3) := by decide +kernel
theorem dL_law_870 : decode cL_law 870 = .ok (.iconst 0, 1) := by decide +kernel
theorem dL_law_871 : decode cL_law 871 = .ok (.ireturn, 1) := by decide +kernel
theorem dL_law_872 : decode cL_law 872 = .ok (.goto 1328, 3) := by decide +kernel
theorem dL_law_875 : decode cL_law 875 = .ok (.aload_n 1, 1) := by decide +kernel
theorem dL_law_876 : decode cL_law 876 = .ok (.aload_n 0, 1) := by decide +kernel
theorem dL_law_877 : decode cL_law 877 = .ok (.iload 5, 2) := by decide +kernel
theorem dL_law_879 : decode cL_law 879 = .ok (.iconst 1, 1) := by decide +kernel
theorem dL_law_880 : decode cL_law 880 = .ok (.iadd, 1) := by decide +kernel
theorem dL_law_881 : decode cL_law 881 = .ok (.iaload, 1) := by decide +kernel
theorem dL_law_882 : decode cL_law 882 = .ok (.aload_n 0, 1) := by decide +kernel
theorem dL_law_883 : decode cL_law 883 = .ok (.iload 5, 2) := by decide +kernel
theorem dL_law_885 : decode cL_law 885 = .ok (.iconst 2, 1) := by decide +kernel
theorem dL_law_886 : decode cL_law 886 = .ok (.iadd, 1) := by decide +kernel
theorem dL_law_887 : decode cL_law 887 = .ok (.iaload, 1) := by decide +kernel
theorem dL_law_888 : decode cL_law 888 = .ok (.aload_n 3, 1) := by decide +kernel
theorem dL_law_889 : decode cL_law 889 = .ok (.invokestatic 165, 3) := by decide +kernel
theorem dL_law_892 : decode cL_law 892 = .ok (.istore 6, 2) := by decide +kernel
theorem dL_law_894 : decode cL_law 894 = .ok (.aload_n 2, 1) := by decide +kernel
theorem dL_law_895 : decode cL_law 895 = .ok (.aload_n 0, 1) := by decide +kernel
theorem dL_law_896 : decode cL_law 896 = .ok (.iload 5, 2) := by decide +kernel
theorem dL_law_898 : decode cL_law 898 = .ok (.iconst 1, 1) := by decide +kernel
theorem dL_law_899 : decode cL_law 899 = .ok (.iadd, 1) := by decide +kernel
theorem dL_law_900 : decode cL_law 900 = .ok (.iaload, 1) := by decide +kernel
theorem dL_law_901 : decode cL_law 901 = .ok (.aload_n 0, 1) := by decide +kernel
theorem dL_law_902 : decode cL_law 902 = .ok (.iload 5, 2) := by decide +kernel
theorem dL_law_904 : decode cL_law 904 = .ok (.iconst 2, 1) := by decide +kernel
theorem dL_law_905 : decode cL_law 905 = .ok (.iadd, 1) := by decide +kernel
theorem dL_law_906 : decode cL_law 906 = .ok (.iaload, 1) := by decide +kernel
theorem dL_law_907 : decode cL_law 907 = .ok (.invokevirtual 167, 3) := by decide +kernel
theorem dL_law_910 : decode cL_law 910 = .ok (.istore 7, 2) := by decide +kernel
theorem dL_law_912 : decode cL_law 912 = .ok (.aload_n 2, 1) := by decide +kernel
theorem dL_law_913 : decode cL_law 913 = .ok (.invokevirtual 131, 3) := by decide +kernel
theorem dL_law_916 : decode cL_law 916 = .ok (.iload 6, 2) := by decide +kernel
theorem dL_law_918 : decode cL_law 918 = .ok (.if_icmp .eq 5, 3) := by decide +kernel
theorem dL_law_921 : decode cL_law 921 = .ok (.iconst 0, 1) := by decide +kernel
theorem dL_law_922 : decode cL_law 922 = .ok (.ireturn, 1) := by decide +kernel
theorem dL_law_923 : decode cL_law 923 = .ok (.iload 6, 2) := by decide +kernel
theorem dL_law_925 : decode cL_law 925 = .ok (.ifCond .ne 15, 3) := by decide +kernel
theorem dL_law_928 : decode cL_law 928 = .ok (.aload_n 3, 1) := by decide +kernel
theorem dL_law_929 : decode cL_law 929 = .ok (.iconst 0, 1) := by decide +kernel
theorem dL_law_930 : decode cL_law 930 = .ok (.laload, 1) := by decide +kernel
theorem dL_law_931 : decode cL_law 931 = .ok (.iload 7, 2) := by decide +kernel
theorem dL_law_933 : decode cL_law 933 = .ok (.i2l, 1) := by decide +kernel
theorem dL_law_934 : decode cL_law 934 = .ok (.lcmp, 1) := by decide +kernel
theorem dL_law_935 : decode cL_law 935 = .ok (.ifCond .eq 5, 3) := by decide +kernel
theorem dL_law_938 : decode cL_law 938 = .ok (.iconst 0, 1) := by decide +kernel
theorem dL_law_939 : decode cL_law 939 = .ok (.ireturn, 1) := by decide +kernel
theorem dL_law_940 : decode cL_law 940 = .ok (.goto 1260, 3) := by decide +kernel
theorem dL_law_943 : decode cL_law 943 = .ok (.aload_n 1, 1) := by decide +kernel
theorem dL_law_944 : decode cL_law 944 = .ok (.invokevirtual 168, 3) := by decide +kernel
theorem dL_law_947 : decode cL_law 947 = .ok (.aload_n 2, 1) := by decide +kernel
theorem dL_law_948 : decode cL_law 948 = .ok (.invokevirtual 171, 3) := by decide +kernel
theorem dL_law_951 : decode cL_law 951 = .ok (.if_icmp .eq 1249, 3) := by decide +kernel
theorem dL_law_954 : decode cL_law 954 = .ok (.iconst 0, 1) := by decide +kernel
theorem dL_law_955 : decode cL_law 955 = .ok (.ireturn, 1) := by decide +kernel
theorem dL_law_956 : decode cL_law 956 = .ok (.aload_n 1, 1) := by decide +kernel
theorem dL_law_957 : decode cL_law 957 = .ok (.aload_n 0, 1) := by decide +kernel
theorem dL_law_958 : decode cL_law 958 = .ok (.iload 5, 2) := by decide +kernel
theorem dL_law_960 : decode cL_law 960 = .ok (.iconst 1, 1) := by decide +kernel
theorem dL_law_961 : decode cL_law 961 = .ok (.iadd, 1) := by decide +kernel
theorem dL_law_962 : decode cL_law 962 = .ok (.iaload, 1) := by decide +kernel
theorem dL_law_963 : decode cL_law 963 = .ok (.aload_n 3, 1) := by decide +kernel
theorem dL_law_964 : decode cL_law 964 = .ok (.invokestatic 172, 3) := by decide +kernel
theorem dL_law_967 : decode cL_law 967 = .ok (.istore 6, 2) := by decide +kernel
theorem dL_law_969 : decode cL_law 969 = .ok (.aload_n 2, 1) := by decide +kernel
theorem dL_law_970 : decode cL_law 970 = .ok (.aload_n 0, 1) := by decide +kernel
theorem dL_law_971 : decode cL_law 971 = .ok (.iload 5, 2) := by decide +kernel
theorem dL_law_973 : decode cL_law 973 = .ok (.iconst 1, 1) := by decide +kernel
theorem dL_law_974 : decode cL_law 974 = .ok (.iadd, 1) := by decide +kernel
theorem dL_law_975 : decode cL_law 975 = .ok (.iaload, 1) := by decide +kernel
theorem dL_law_976 : decode cL_law 976 = .ok (.invokevirtual 174, 3) := by decide +kernel
theorem dL_law_979 : decode cL_law 979 = .ok (.istore 7, 2) := by decide +kernel
theorem dL_law_981 : decode cL_law 981 = .ok (.aload_n 2, 1) := by decide +kernel
theorem dL_law_982 : decode cL_law 982 = .ok (.invokevirtual 131, 3) := by decide +kernel
theorem dL_law_985 : decode cL_law 985 = .ok (.iload 6, 2) := by decide +kernel
theorem dL_law_987 : decode cL_law 987 = .ok (.if_icmp .eq 5, 3) := by decide +kernel
theorem dL_law_990 : decode cL_law 990 = .ok (.iconst 0, 1) := by decide +kernel
theorem dL_law_991 : decode cL_law 991 = .ok (.ireturn, 1) := by decide +kernel
theorem dL_law_992 : decode cL_law 992 = .ok (.iload 6, 2) := by decide +kernel
theorem dL_law_994 : decode cL_law 994 = .ok (.ifCond .ne 15, 3) := by decide +kernel
theorem dL_law_997 : decode cL_law 997 = .ok (.aload_n 3, 1) := by decide +kernel
theorem dL_law_998 : decode cL_law 998 = .ok (.iconst 0, 1) := by decide +kernel
theorem dL_law_999 : decode cL_law 999 = .ok (.laload, 1) := by decide +kernel
theorem dL_law_1000 : decode cL_law 1000 = .ok (.iload 7, 2) := by decide +kernel
theorem dL_law_1002 : decode cL_law 1002 = .ok (.i2l, 1) := by decide +kernel
theorem dL_law_1003 : decode cL_law 1003 = .ok (.lcmp, 1) := by decide +kernel
theorem dL_law_1004 : decode cL_law 1004 = .ok (.ifCond .eq 5, 3) := by decide +kernel
theorem dL_law_1007 : decode cL_law 1007 = .ok (.iconst 0, 1) := by decide +kernel
theorem dL_law_1008 : decode cL_law 1008 = .ok (.ireturn, 1) := by decide +kernel
theorem dL_law_1009 : decode cL_law 1009 = .ok (.goto 1191, 3) := by decide +kernel
theorem dL_law_1012 : decode cL_law 1012 = .ok (.aload_n 1, 1) := by decide +kernel
theorem dL_law_1013 : decode cL_law 1013 = .ok (.aload_n 0, 1) := by decide +kernel
theorem dL_law_1014 : decode cL_law 1014 = .ok (.iload 5, 2) := by decide +kernel
theorem dL_law_1016 : decode cL_law 1016 = .ok (.iconst 1, 1) := by decide +kernel
theorem dL_law_1017 : decode cL_law 1017 = .ok (.iadd, 1) := by decide +kernel
theorem dL_law_1018 : decode cL_law 1018 = .ok (.iaload, 1) := by decide +kernel
theorem dL_law_1019 : decode cL_law 1019 = .ok (.aload_n 3, 1) := by decide +kernel
theorem dL_law_1020 : decode cL_law 1020 = .ok (.invokestatic 175, 3) := by decide +kernel
theorem dL_law_1023 : decode cL_law 1023 = .ok (.istore 6, 2) := by decide +kernel
theorem dL_law_1025 : decode cL_law 1025 = .ok (.aload_n 2, 1) := by decide +kernel
theorem dL_law_1026 : decode cL_law 1026 = .ok (.aload_n 0, 1) := by decide +kernel
theorem dL_law_1027 : decode cL_law 1027 = .ok (.iload 5, 2) := by decide +kernel
theorem dL_law_1029 : decode cL_law 1029 = .ok (.iconst 1, 1) := by decide +kernel
theorem dL_law_1030 : decode cL_law 1030 = .ok (.iadd, 1) := by decide +kernel
theorem dL_law_1031 : decode cL_law 1031 = .ok (.iaload, 1) := by decide +kernel
theorem dL_law_1032 : decode cL_law 1032 = .ok (.invokevirtual 177, 3) := by decide +kernel
theorem dL_law_1035 : decode cL_law 1035 = .ok (.istore 7, 2) := by decide +kernel
theorem dL_law_1037 : decode cL_law 1037 = .ok (.aload_n 2, 1) := by decide +kernel
theorem dL_law_1038 : decode cL_law 1038 = .ok (.invokevirtual 131, 3) := by decide +kernel
theorem dL_law_1041 : decode cL_law 1041 = .ok (.iload 6, 2) := by decide +kernel
theorem dL_law_1043 : decode cL_law 1043 = .ok (.if_icmp .eq 5, 3) := by decide +kernel
theorem dL_law_1046 : decode cL_law 1046 = .ok (.iconst 0, 1) := by decide +kernel
theorem dL_law_1047 : decode cL_law 1047 = .ok (.ireturn, 1) := by decide +kernel
theorem dL_law_1048 : decode cL_law 1048 = .ok (.iload 6, 2) := by decide +kernel
theorem dL_law_1050 : decode cL_law 1050 = .ok (.ifCond .ne 22, 3) := by decide +kernel
theorem dL_law_1053 : decode cL_law 1053 = .ok (.aload_n 3, 1) := by decide +kernel
theorem dL_law_1054 : decode cL_law 1054 = .ok (.iconst 0, 1) := by decide +kernel
theorem dL_law_1055 : decode cL_law 1055 = .ok (.laload, 1) := by decide +kernel
theorem dL_law_1056 : decode cL_law 1056 = .ok (.iload 7, 2) := by decide +kernel
theorem dL_law_1058 : decode cL_law 1058 = .ok (.ifCond .eq 7, 3) := by decide +kernel
theorem dL_law_1061 : decode cL_law 1061 = .ok (.lconst 1, 1) := by decide +kernel
theorem dL_law_1062 : decode cL_law 1062 = .ok (.goto 4, 3) := by decide +kernel
theorem dL_law_1065 : decode cL_law 1065 = .ok (.lconst 0, 1) := by decide +kernel
theorem dL_law_1066 : decode cL_law 1066 = .ok (.lcmp, 1) := by decide +kernel
theorem dL_law_1067 : decode cL_law 1067 = .ok (.ifCond .eq 5, 3) := by decide +kernel
theorem dL_law_1070 : decode cL_law 1070 = .ok (.iconst 0, 1) := by decide +kernel
theorem dL_law_1071 : decode cL_law 1071 = .ok (.ireturn, 1) := by decide +kernel
theorem dL_law_1072 : decode cL_law 1072 = .ok (.goto 1128, 3) := by decide +kernel
theorem dL_law_1075 : decode cL_law 1075 = .ok (.aload_n 1, 1) := by decide +kernel
theorem dL_law_1076 : decode cL_law 1076 = .ok (.aload_n 0, 1) := by decide +kernel
theorem dL_law_1077 : decode cL_law 1077 = .ok (.iload 5, 2) := by decide +kernel
theorem dL_law_1079 : decode cL_law 1079 = .ok (.iconst 1, 1) := by decide +kernel
theorem dL_law_1080 : decode cL_law 1080 = .ok (.iadd, 1) := by decide +kernel
theorem dL_law_1081 : decode cL_law 1081 = .ok (.iaload, 1) := by decide +kernel
theorem dL_law_1082 : decode cL_law 1082 = .ok (.aload_n 0, 1) := by decide +kernel
theorem dL_law_1083 : decode cL_law 1083 = .ok (.iload 5, 2) := by decide +kernel
theorem dL_law_1085 : decode cL_law 1085 = .ok (.iconst 2, 1) := by decide +kernel
theorem dL_law_1086 : decode cL_law 1086 = .ok (.iadd, 1) := by decide +kernel
theorem dL_law_1087 : decode cL_law 1087 = .ok (.iaload, 1) := by decide +kernel
theorem dL_law_1088 : decode cL_law 1088 = .ok (.aload_n 3, 1) := by decide +kernel
theorem dL_law_1089 : decode cL_law 1089 = .ok (.invokestatic 178, 3) := by decide +kernel
theorem dL_law_1092 : decode cL_law 1092 = .ok (.istore 6, 2) := by decide +kernel
theorem dL_law_1094 : decode cL_law 1094 = .ok (.aload_n 2, 1) := by decide +kernel
theorem dL_law_1095 : decode cL_law 1095 = .ok (.aload_n 0, 1) := by decide +kernel
theorem dL_law_1096 : decode cL_law 1096 = .ok (.iload 5, 2) := by decide +kernel
theorem dL_law_1098 : decode cL_law 1098 = .ok (.iconst 1, 1) := by decide +kernel
theorem dL_law_1099 : decode cL_law 1099 = .ok (.iadd, 1) := by decide +kernel
theorem dL_law_1100 : decode cL_law 1100 = .ok (.iaload, 1) := by decide +kernel
theorem dL_law_1101 : decode cL_law 1101 = .ok (.aload_n 0, 1) := by decide +kernel
theorem dL_law_1102 : decode cL_law 1102 = .ok (.iload 5, 2) := by decide +kernel
theorem dL_law_1104 : decode cL_law 1104 = .ok (.iconst 2, 1) := by decide +kernel
theorem dL_law_1105 : decode cL_law 1105 = .ok (.iadd, 1) := by decide +kernel
theorem dL_law_1106 : decode cL_law 1106 = .ok (.iaload, 1) := by decide +kernel
theorem dL_law_1107 : decode cL_law 1107 = .ok (.invokevirtual 180, 3) := by decide +kernel
theorem dL_law_1110 : decode cL_law 1110 = .ok (.istore 7, 2) := by decide +kernel
theorem dL_law_1112 : decode cL_law 1112 = .ok (.aload_n 2, 1) := by decide +kernel
theorem dL_law_1113 : decode cL_law 1113 = .ok (.invokevirtual 131, 3) := by decide +kernel
theorem dL_law_1116 : decode cL_law 1116 = .ok (.iload 6, 2) := by decide +kernel
theorem dL_law_1118 : decode cL_law 1118 = .ok (.if_icmp .eq 5, 3) := by decide +kernel
theorem dL_law_1121 : decode cL_law 1121 = .ok (.iconst 0, 1) := by decide +kernel
theorem dL_law_1122 : decode cL_law 1122 = .ok (.ireturn, 1) := by decide +kernel
theorem dL_law_1123 : decode cL_law 1123 = .ok (.iload 6, 2) := by decide +kernel
theorem dL_law_1125 : decode cL_law 1125 = .ok (.ifCond .ne 15, 3) := by decide +kernel
theorem dL_law_1128 : decode cL_law 1128 = .ok (.aload_n 3, 1) := by decide +kernel
theorem dL_law_1129 : decode cL_law 1129 = .ok (.iconst 0, 1) := by decide +kernel
theorem dL_law_1130 : decode cL_law 1130 = .ok (.laload, 1) := by decide +kernel
theorem dL_law_1131 : decode cL_law 1131 = .ok (.iload 7, 2) := by decide +kernel
theorem dL_law_1133 : decode cL_law 1133 = .ok (.i2l, 1) := by decide +kernel
theorem dL_law_1134 : decode cL_law 1134 = .ok (.lcmp, 1) := by decide +kernel
theorem dL_law_1135 : decode cL_law 1135 = .ok (.ifCond .eq 5, 3) := by decide +kernel
theorem dL_law_1138 : decode cL_law 1138 = .ok (.iconst 0, 1) := by decide +kernel
theorem dL_law_1139 : decode cL_law 1139 = .ok (.ireturn, 1) := by decide +kernel
theorem dL_law_1140 : decode cL_law 1140 = .ok (.goto 1060, 3) := by decide +kernel
theorem dL_law_1143 : decode cL_law 1143 = .ok (.aload_n 1, 1) := by decide +kernel
theorem dL_law_1144 : decode cL_law 1144 = .ok (.aload_n 0, 1) := by decide +kernel
theorem dL_law_1145 : decode cL_law 1145 = .ok (.iload 5, 2) := by decide +kernel
theorem dL_law_1147 : decode cL_law 1147 = .ok (.iconst 1, 1) := by decide +kernel
theorem dL_law_1148 : decode cL_law 1148 = .ok (.iadd, 1) := by decide +kernel
theorem dL_law_1149 : decode cL_law 1149 = .ok (.iaload, 1) := by decide +kernel
theorem dL_law_1150 : decode cL_law 1150 = .ok (.aload_n 0, 1) := by decide +kernel
theorem dL_law_1151 : decode cL_law 1151 = .ok (.iload 5, 2) := by decide +kernel
theorem dL_law_1153 : decode cL_law 1153 = .ok (.iconst 2, 1) := by decide +kernel
theorem dL_law_1154 : decode cL_law 1154 = .ok (.iadd, 1) := by decide +kernel
theorem dL_law_1155 : decode cL_law 1155 = .ok (.iaload, 1) := by decide +kernel
theorem dL_law_1156 : decode cL_law 1156 = .ok (.aload_n 0, 1) := by decide +kernel
theorem dL_law_1157 : decode cL_law 1157 = .ok (.iload 5, 2) := by decide +kernel
theorem dL_law_1159 : decode cL_law 1159 = .ok (.iconst 3, 1) := by decide +kernel
theorem dL_law_1160 : decode cL_law 1160 = .ok (.iadd, 1) := by decide +kernel
theorem dL_law_1161 : decode cL_law 1161 = .ok (.iaload, 1) := by decide +kernel
theorem dL_law_1162 : decode cL_law 1162 = .ok (.aload_n 3, 1) := by decide +kernel
theorem dL_law_1163 : decode cL_law 1163 = .ok (.invokestatic 181, 3) := by decide +kernel
theorem dL_law_1166 : decode cL_law 1166 = .ok (.istore 6, 2) := by decide +kernel
theorem dL_law_1168 : decode cL_law 1168 = .ok (.aload_n 2, 1) := by decide +kernel
theorem dL_law_1169 : decode cL_law 1169 = .ok (.aload_n 0, 1) := by decide +kernel
theorem dL_law_1170 : decode cL_law 1170 = .ok (.iload 5, 2) := by decide +kernel
theorem dL_law_1172 : decode cL_law 1172 = .ok (.iconst 1, 1) := by decide +kernel
theorem dL_law_1173 : decode cL_law 1173 = .ok (.iadd, 1) := by decide +kernel
theorem dL_law_1174 : decode cL_law 1174 = .ok (.iaload, 1) := by decide +kernel
theorem dL_law_1175 : decode cL_law 1175 = .ok (.aload_n 0, 1) := by decide +kernel
theorem dL_law_1176 : decode cL_law 1176 = .ok (.iload 5, 2) := by decide +kernel
theorem dL_law_1178 : decode cL_law 1178 = .ok (.iconst 2, 1) := by decide +kernel
theorem dL_law_1179 : decode cL_law 1179 = .ok (.iadd, 1) := by decide +kernel
theorem dL_law_1180 : decode cL_law 1180 = .ok (.iaload, 1) := by decide +kernel
theorem dL_law_1181 : decode cL_law 1181 = .ok (.aload_n 0, 1) := by decide +kernel
theorem dL_law_1182 : decode cL_law 1182 = .ok (.iload 5, 2) := by decide +kernel
theorem dL_law_1184 : decode cL_law 1184 = .ok (.iconst 3, 1) := by decide +kernel
theorem dL_law_1185 : decode cL_law 1185 = .ok (.iadd, 1) := by decide +kernel
theorem dL_law_1186 : decode cL_law 1186 = .ok (.iaload, 1) := by decide +kernel
theorem dL_law_1187 : decode cL_law 1187 = .ok (.invokevirtual 183, 3) := by decide +kernel
theorem dL_law_1190 : decode cL_law 1190 = .ok (.istore 7, 2) := by decide +kernel
theorem dL_law_1192 : decode cL_law 1192 = .ok (.aload_n 2, 1) := by decide +kernel
theorem dL_law_1193 : decode cL_law 1193 = .ok (.invokevirtual 131, 3) := by decide +kernel
theorem dL_law_1196 : decode cL_law 1196 = .ok (.iload 6, 2) := by decide +kernel
theorem dL_law_1198 : decode cL_law 1198 = .ok (.if_icmp .eq 5, 3) := by decide +kernel
theorem dL_law_1201 : decode cL_law 1201 = .ok (.iconst 0, 1) := by decide +kernel
theorem dL_law_1202 : decode cL_law 1202 = .ok (.ireturn, 1) := by decide +kernel
theorem dL_law_1203 : decode cL_law 1203 = .ok (.iload 6, 2) := by decide +kernel
theorem dL_law_1205 : decode cL_law 1205 = .ok (.ifCond .ne 15, 3) := by decide +kernel
theorem dL_law_1208 : decode cL_law 1208 = .ok (.aload_n 3, 1) := by decide +kernel
theorem dL_law_1209 : decode cL_law 1209 = .ok (.iconst 0, 1) := by decide +kernel
theorem dL_law_1210 : decode cL_law 1210 = .ok (.laload, 1) := by decide +kernel
theorem dL_law_1211 : decode cL_law 1211 = .ok (.iload 7, 2) := by decide +kernel
theorem dL_law_1213 : decode cL_law 1213 = .ok (.i2l, 1) := by decide +kernel
theorem dL_law_1214 : decode cL_law 1214 = .ok (.lcmp, 1) := by decide +kernel
theorem dL_law_1215 : decode cL_law 1215 = .ok (.ifCond .eq 5, 3) := by decide +kernel
theorem dL_law_1218 : decode cL_law 1218 = .ok (.iconst 0, 1) := by decide +kernel
theorem dL_law_1219 : decode cL_law 1219 = .ok (.ireturn, 1) := by decide +kernel
theorem dL_law_1220 : decode cL_law 1220 = .ok (.goto 980, 3) := by decide +kernel
theorem dL_law_1223 : decode cL_law 1223 = .ok (.aload_n 1, 1) := by decide +kernel
theorem dL_law_1224 : decode cL_law 1224 = .ok (.aload_n 0, 1) := by decide +kernel
theorem dL_law_1225 : decode cL_law 1225 = .ok (.iload 5, 2) := by decide +kernel
theorem dL_law_1227 : decode cL_law 1227 = .ok (.iconst 1, 1) := by decide +kernel
theorem dL_law_1228 : decode cL_law 1228 = .ok (.iadd, 1) := by decide +kernel
theorem dL_law_1229 : decode cL_law 1229 = .ok (.iaload, 1) := by decide +kernel
theorem dL_law_1230 : decode cL_law 1230 = .ok (.aload_n 0, 1) := by decide +kernel
theorem dL_law_1231 : decode cL_law 1231 = .ok (.iload 5, 2) := by decide +kernel
theorem dL_law_1233 : decode cL_law 1233 = .ok (.iconst 2, 1) := by decide +kernel
theorem dL_law_1234 : decode cL_law 1234 = .ok (.iadd, 1) := by decide +kernel
theorem dL_law_1235 : decode cL_law 1235 = .ok (.iaload, 1) := by decide +kernel
theorem dL_law_1236 : decode cL_law 1236 = .ok (.aload_n 0, 1) := by decide +kernel
theorem dL_law_1237 : decode cL_law 1237 = .ok (.iload 5, 2) := by decide +kernel
theorem dL_law_1239 : decode cL_law 1239 = .ok (.iconst 3, 1) := by decide +kernel
theorem dL_law_1240 : decode cL_law 1240 = .ok (.iadd, 1) := by decide +kernel
theorem dL_law_1241 : decode cL_law 1241 = .ok (.iaload, 1) := by decide +kernel
theorem dL_law_1242 : decode cL_law 1242 = .ok (.aload_n 3, 1) := by decide +kernel
theorem dL_law_1243 : decode cL_law 1243 = .ok (.invokestatic 184, 3) := by decide +kernel
theorem dL_law_1246 : decode cL_law 1246 = .ok (.istore 6, 2) := by decide +kernel
theorem dL_law_1248 : decode cL_law 1248 = .ok (.aload_n 2, 1) := by decide +kernel
theorem dL_law_1249 : decode cL_law 1249 = .ok (.aload_n 0, 1) := by decide +kernel
theorem dL_law_1250 : decode cL_law 1250 = .ok (.iload 5, 2) := by decide +kernel
theorem dL_law_1252 : decode cL_law 1252 = .ok (.iconst 1, 1) := by decide +kernel
theorem dL_law_1253 : decode cL_law 1253 = .ok (.iadd, 1) := by decide +kernel
theorem dL_law_1254 : decode cL_law 1254 = .ok (.iaload, 1) := by decide +kernel
theorem dL_law_1255 : decode cL_law 1255 = .ok (.aload_n 0, 1) := by decide +kernel
theorem dL_law_1256 : decode cL_law 1256 = .ok (.iload 5, 2) := by decide +kernel
theorem dL_law_1258 : decode cL_law 1258 = .ok (.iconst 2, 1) := by decide +kernel
theorem dL_law_1259 : decode cL_law 1259 = .ok (.iadd, 1) := by decide +kernel
theorem dL_law_1260 : decode cL_law 1260 = .ok (.iaload, 1) := by decide +kernel
theorem dL_law_1261 : decode cL_law 1261 = .ok (.aload_n 0, 1) := by decide +kernel
theorem dL_law_1262 : decode cL_law 1262 = .ok (.iload 5, 2) := by decide +kernel
theorem dL_law_1264 : decode cL_law 1264 = .ok (.iconst 3, 1) := by decide +kernel
theorem dL_law_1265 : decode cL_law 1265 = .ok (.iadd, 1) := by decide +kernel
theorem dL_law_1266 : decode cL_law 1266 = .ok (.iaload, 1) := by decide +kernel
theorem dL_law_1267 : decode cL_law 1267 = .ok (.invokevirtual 186, 3) := by decide +kernel
theorem dL_law_1270 : decode cL_law 1270 = .ok (.istore 7, 2) := by decide +kernel
theorem dL_law_1272 : decode cL_law 1272 = .ok (.aload_n 2, 1) := by decide +kernel
theorem dL_law_1273 : decode cL_law 1273 = .ok (.invokevirtual 131, 3) := by decide +kernel
theorem dL_law_1276 : decode cL_law 1276 = .ok (.iload 6, 2) := by decide +kernel
theorem dL_law_1278 : decode cL_law 1278 = .ok (.if_icmp .eq 5, 3) := by decide +kernel
theorem dL_law_1281 : decode cL_law 1281 = .ok (.iconst 0, 1) := by decide +kernel
theorem dL_law_1282 : decode cL_law 1282 = .ok (.ireturn, 1) := by decide +kernel
theorem dL_law_1283 : decode cL_law 1283 = .ok (.iload 6, 2) := by decide +kernel
theorem dL_law_1285 : decode cL_law 1285 = .ok (.ifCond .ne 15, 3) := by decide +kernel
theorem dL_law_1288 : decode cL_law 1288 = .ok (.aload_n 3, 1) := by decide +kernel
theorem dL_law_1289 : decode cL_law 1289 = .ok (.iconst 0, 1) := by decide +kernel
theorem dL_law_1290 : decode cL_law 1290 = .ok (.laload, 1) := by decide +kernel
theorem dL_law_1291 : decode cL_law 1291 = .ok (.iload 7, 2) := by decide +kernel
theorem dL_law_1293 : decode cL_law 1293 = .ok (.i2l, 1) := by decide +kernel
theorem dL_law_1294 : decode cL_law 1294 = .ok (.lcmp, 1) := by decide +kernel
theorem dL_law_1295 : decode cL_law 1295 = .ok (.ifCond .eq 5, 3) := by decide +kernel
theorem dL_law_1298 : decode cL_law 1298 = .ok (.iconst 0, 1) := by decide +kernel
theorem dL_law_1299 : decode cL_law 1299 = .ok (.ireturn, 1) := by decide +kernel
theorem dL_law_1300 : decode cL_law 1300 = .ok (.goto 900, 3) := by decide +kernel
theorem dL_law_1303 : decode cL_law 1303 = .ok (.aload_n 1, 1) := by decide +kernel
theorem dL_law_1304 : decode cL_law 1304 = .ok (.aload_n 0, 1) := by decide +kernel
theorem dL_law_1305 : decode cL_law 1305 = .ok (.iload 5, 2) := by decide +kernel
theorem dL_law_1307 : decode cL_law 1307 = .ok (.iconst 1, 1) := by decide +kernel
theorem dL_law_1308 : decode cL_law 1308 = .ok (.iadd, 1) := by decide +kernel
theorem dL_law_1309 : decode cL_law 1309 = .ok (.iaload, 1) := by decide +kernel
theorem dL_law_1310 : decode cL_law 1310 = .ok (.aload_n 3, 1) := by decide +kernel
theorem dL_law_1311 : decode cL_law 1311 = .ok (.invokestatic 187, 3) := by decide +kernel
theorem dL_law_1314 : decode cL_law 1314 = .ok (.istore 6, 2) := by decide +kernel
theorem dL_law_1316 : decode cL_law 1316 = .ok (.aload_n 2, 1) := by decide +kernel
theorem dL_law_1317 : decode cL_law 1317 = .ok (.aload_n 0, 1) := by decide +kernel
theorem dL_law_1318 : decode cL_law 1318 = .ok (.iload 5, 2) := by decide +kernel
theorem dL_law_1320 : decode cL_law 1320 = .ok (.iconst 1, 1) := by decide +kernel
theorem dL_law_1321 : decode cL_law 1321 = .ok (.iadd, 1) := by decide +kernel
theorem dL_law_1322 : decode cL_law 1322 = .ok (.iaload, 1) := by decide +kernel
theorem dL_law_1323 : decode cL_law 1323 = .ok (.invokevirtual 189, 3) := by decide +kernel
theorem dL_law_1326 : decode cL_law 1326 = .ok (.istore 7, 2) := by decide +kernel
theorem dL_law_1328 : decode cL_law 1328 = .ok (.aload_n 2, 1) := by decide +kernel
theorem dL_law_1329 : decode cL_law 1329 = .ok (.invokevirtual 131, 3) := by decide +kernel
theorem dL_law_1332 : decode cL_law 1332 = .ok (.iload 6, 2) := by decide +kernel
theorem dL_law_1334 : decode cL_law 1334 = .ok (.if_icmp .eq 5, 3) := by decide +kernel
theorem dL_law_1337 : decode cL_law 1337 = .ok (.iconst 0, 1) := by decide +kernel
theorem dL_law_1338 : decode cL_law 1338 = .ok (.ireturn, 1) := by decide +kernel
theorem dL_law_1339 : decode cL_law 1339 = .ok (.iload 6, 2) := by decide +kernel
theorem dL_law_1341 : decode cL_law 1341 = .ok (.ifCond .ne 15, 3) := by decide +kernel
theorem dL_law_1344 : decode cL_law 1344 = .ok (.aload_n 3, 1) := by decide +kernel
theorem dL_law_1345 : decode cL_law 1345 = .ok (.iconst 0, 1) := by decide +kernel
theorem dL_law_1346 : decode cL_law 1346 = .ok (.laload, 1) := by decide +kernel
theorem dL_law_1347 : decode cL_law 1347 = .ok (.iload 7, 2) := by decide +kernel
theorem dL_law_1349 : decode cL_law 1349 = .ok (.i2l, 1) := by decide +kernel
theorem dL_law_1350 : decode cL_law 1350 = .ok (.lcmp, 1) := by decide +kernel
theorem dL_law_1351 : decode cL_law 1351 = .ok (.ifCond .eq 5, 3) := by decide +kernel
theorem dL_law_1354 : decode cL_law 1354 = .ok (.iconst 0, 1) := by decide +kernel
theorem dL_law_1355 : decode cL_law 1355 = .ok (.ireturn, 1) := by decide +kernel
theorem dL_law_1356 : decode cL_law 1356 = .ok (.goto 844, 3) := by decide +kernel
theorem dL_law_1359 : decode cL_law 1359 = .ok (.aload_n 1, 1) := by decide +kernel
theorem dL_law_1360 : decode cL_law 1360 = .ok (.aload_n 0, 1) := by decide +kernel
theorem dL_law_1361 : decode cL_law 1361 = .ok (.iload 5, 2) := by decide +kernel
theorem dL_law_1363 : decode cL_law 1363 = .ok (.iconst 1, 1) := by decide +kernel
theorem dL_law_1364 : decode cL_law 1364 = .ok (.iadd, 1) := by decide +kernel
theorem dL_law_1365 : decode cL_law 1365 = .ok (.iaload, 1) := by decide +kernel
theorem dL_law_1366 : decode cL_law 1366 = .ok (.aload_n 3, 1) := by decide +kernel
theorem dL_law_1367 : decode cL_law 1367 = .ok (.invokestatic 190, 3) := by decide +kernel
theorem dL_law_1370 : decode cL_law 1370 = .ok (.istore 6, 2) := by decide +kernel
theorem dL_law_1372 : decode cL_law 1372 = .ok (.aload_n 2, 1) := by decide +kernel
theorem dL_law_1373 : decode cL_law 1373 = .ok (.aload_n 0, 1) := by decide +kernel
theorem dL_law_1374 : decode cL_law 1374 = .ok (.iload 5, 2) := by decide +kernel
theorem dL_law_1376 : decode cL_law 1376 = .ok (.iconst 1, 1) := by decide +kernel
theorem dL_law_1377 : decode cL_law 1377 = .ok (.iadd, 1) := by decide +kernel
theorem dL_law_1378 : decode cL_law 1378 = .ok (.iaload, 1) := by decide +kernel
theorem dL_law_1379 : decode cL_law 1379 = .ok (.invokevirtual 192, 3) := by decide +kernel
theorem dL_law_1382 : decode cL_law 1382 = .ok (.istore 7, 2) := by decide +kernel
theorem dL_law_1384 : decode cL_law 1384 = .ok (.aload_n 2, 1) := by decide +kernel
theorem dL_law_1385 : decode cL_law 1385 = .ok (.invokevirtual 131, 3) := by decide +kernel
theorem dL_law_1388 : decode cL_law 1388 = .ok (.iload 6, 2) := by decide +kernel
theorem dL_law_1390 : decode cL_law 1390 = .ok (.if_icmp .eq 5, 3) := by decide +kernel
theorem dL_law_1393 : decode cL_law 1393 = .ok (.iconst 0, 1) := by decide +kernel
theorem dL_law_1394 : decode cL_law 1394 = .ok (.ireturn, 1) := by decide +kernel
theorem dL_law_1395 : decode cL_law 1395 = .ok (.iload 6, 2) := by decide +kernel
theorem dL_law_1397 : decode cL_law 1397 = .ok (.ifCond .ne 15, 3) := by decide +kernel
theorem dL_law_1400 : decode cL_law 1400 = .ok (.aload_n 3, 1) := by decide +kernel
theorem dL_law_1401 : decode cL_law 1401 = .ok (.iconst 0, 1) := by decide +kernel
theorem dL_law_1402 : decode cL_law 1402 = .ok (.laload, 1) := by decide +kernel
theorem dL_law_1403 : decode cL_law 1403 = .ok (.iload 7, 2) := by decide +kernel
theorem dL_law_1405 : decode cL_law 1405 = .ok (.i2l, 1) := by decide +kernel
theorem dL_law_1406 : decode cL_law 1406 = .ok (.lcmp, 1) := by decide +kernel
theorem dL_law_1407 : decode cL_law 1407 = .ok (.ifCond .eq 5, 3) := by decide +kernel
theorem dL_law_1410 : decode cL_law 1410 = .ok (.iconst 0, 1) := by decide +kernel
theorem dL_law_1411 : decode cL_law 1411 = .ok (.ireturn, 1) := by decide +kernel
theorem dL_law_1412 : decode cL_law 1412 = .ok (.goto 788, 3) := by decide +kernel
theorem dL_law_1415 : decode cL_law 1415 = .ok (.aload_n 1, 1) := by decide +kernel
theorem dL_law_1416 : decode cL_law 1416 = .ok (.aload_n 0, 1) := by decide +kernel
theorem dL_law_1417 : decode cL_law 1417 = .ok (.iload 5, 2) := by decide +kernel
theorem dL_law_1419 : decode cL_law 1419 = .ok (.iconst 1, 1) := by decide +kernel
theorem dL_law_1420 : decode cL_law 1420 = .ok (.iadd, 1) := by decide +kernel
theorem dL_law_1421 : decode cL_law 1421 = .ok (.iaload, 1) := by decide +kernel
theorem dL_law_1422 : decode cL_law 1422 = .ok (.aload_n 3, 1) := by decide +kernel
theorem dL_law_1423 : decode cL_law 1423 = .ok (.invokestatic 193, 3) := by decide +kernel
theorem dL_law_1426 : decode cL_law 1426 = .ok (.istore 6, 2) := by decide +kernel
theorem dL_law_1428 : decode cL_law 1428 = .ok (.aload_n 2, 1) := by decide +kernel
theorem dL_law_1429 : decode cL_law 1429 = .ok (.aload_n 0, 1) := by decide +kernel
theorem dL_law_1430 : decode cL_law 1430 = .ok (.iload 5, 2) := by decide +kernel
theorem dL_law_1432 : decode cL_law 1432 = .ok (.iconst 1, 1) := by decide +kernel
theorem dL_law_1433 : decode cL_law 1433 = .ok (.iadd, 1) := by decide +kernel
theorem dL_law_1434 : decode cL_law 1434 = .ok (.iaload, 1) := by decide +kernel
theorem dL_law_1435 : decode cL_law 1435 = .ok (.invokevirtual 195, 3) := by decide +kernel
theorem dL_law_1438 : decode cL_law 1438 = .ok (.istore 7, 2) := by decide +kernel
theorem dL_law_1440 : decode cL_law 1440 = .ok (.aload_n 2, 1) := by decide +kernel
theorem dL_law_1441 : decode cL_law 1441 = .ok (.invokevirtual 131, 3) := by decide +kernel
theorem dL_law_1444 : decode cL_law 1444 = .ok (.iload 6, 2) := by decide +kernel
theorem dL_law_1446 : decode cL_law 1446 = .ok (.if_icmp .eq 5, 3) := by decide +kernel
theorem dL_law_1449 : decode cL_law 1449 = .ok (.iconst 0, 1) := by decide +kernel
theorem dL_law_1450 : decode cL_law 1450 = .ok (.ireturn, 1) := by decide +kernel
theorem dL_law_1451 : decode cL_law 1451 = .ok (.iload 6, 2) := by decide +kernel
theorem dL_law_1453 : decode cL_law 1453 = .ok (.ifCond .ne 15, 3) := by decide +kernel
theorem dL_law_1456 : decode cL_law 1456 = .ok (.aload_n 3, 1) := by decide +kernel
theorem dL_law_1457 : decode cL_law 1457 = .ok (.iconst 0, 1) := by decide +kernel
theorem dL_law_1458 : decode cL_law 1458 = .ok (.laload, 1) := by decide +kernel
theorem dL_law_1459 : decode cL_law 1459 = .ok (.iload 7, 2) := by decide +kernel
theorem dL_law_1461 : decode cL_law 1461 = .ok (.i2l, 1) := by decide +kernel
theorem dL_law_1462 : decode cL_law 1462 = .ok (.lcmp, 1) := by decide +kernel
theorem dL_law_1463 : decode cL_law 1463 = .ok (.ifCond .eq 5, 3) := by decide +kernel
theorem dL_law_1466 : decode cL_law 1466 = .ok (.iconst 0, 1) := by decide +kernel
theorem dL_law_1467 : decode cL_law 1467 = .ok (.ireturn, 1) := by decide +kernel
theorem dL_law_1468 : decode cL_law 1468 = .ok (.goto 732, 3) := by decide +kernel
theorem dL_law_1471 : decode cL_law 1471 = .ok (.aload_n 1, 1) := by decide +kernel
theorem dL_law_1472 : decode cL_law 1472 = .ok (.aload_n 0, 1) := by decide +kernel
theorem dL_law_1473 : decode cL_law 1473 = .ok (.iload 5, 2) := by decide +kernel
theorem dL_law_1475 : decode cL_law 1475 = .ok (.iconst 1, 1) := by decide +kernel
theorem dL_law_1476 : decode cL_law 1476 = .ok (.iadd, 1) := by decide +kernel
theorem dL_law_1477 : decode cL_law 1477 = .ok (.iaload, 1) := by decide +kernel
theorem dL_law_1478 : decode cL_law 1478 = .ok (.aload_n 3, 1) := by decide +kernel
theorem dL_law_1479 : decode cL_law 1479 = .ok (.invokestatic 196, 3) := by decide +kernel
theorem dL_law_1482 : decode cL_law 1482 = .ok (.istore 6, 2) := by decide +kernel
theorem dL_law_1484 : decode cL_law 1484 = .ok (.aload_n 2, 1) := by decide +kernel
theorem dL_law_1485 : decode cL_law 1485 = .ok (.aload_n 0, 1) := by decide +kernel
theorem dL_law_1486 : decode cL_law 1486 = .ok (.iload 5, 2) := by decide +kernel
theorem dL_law_1488 : decode cL_law 1488 = .ok (.iconst 1, 1) := by decide +kernel
theorem dL_law_1489 : decode cL_law 1489 = .ok (.iadd, 1) := by decide +kernel
theorem dL_law_1490 : decode cL_law 1490 = .ok (.iaload, 1) := by decide +kernel
theorem dL_law_1491 : decode cL_law 1491 = .ok (.invokevirtual 198, 3) := by decide +kernel
theorem dL_law_1494 : decode cL_law 1494 = .ok (.istore 7, 2) := by decide +kernel
theorem dL_law_1496 : decode cL_law 1496 = .ok (.aload_n 2, 1) := by decide +kernel
theorem dL_law_1497 : decode cL_law 1497 = .ok (.invokevirtual 131, 3) := by decide +kernel
theorem dL_law_1500 : decode cL_law 1500 = .ok (.iload 6, 2) := by decide +kernel
theorem dL_law_1502 : decode cL_law 1502 = .ok (.if_icmp .eq 5, 3) := by decide +kernel
theorem dL_law_1505 : decode cL_law 1505 = .ok (.iconst 0, 1) := by decide +kernel
theorem dL_law_1506 : decode cL_law 1506 = .ok (.ireturn, 1) := by decide +kernel
theorem dL_law_1507 : decode cL_law 1507 = .ok (.iload 6, 2) := by decide +kernel
theorem dL_law_1509 : decode cL_law 1509 = .ok (.ifCond .ne 15, 3) := by decide +kernel
theorem dL_law_1512 : decode cL_law 1512 = .ok (.aload_n 3, 1) := by decide +kernel
theorem dL_law_1513 : decode cL_law 1513 = .ok (.iconst 0, 1) := by decide +kernel
theorem dL_law_1514 : decode cL_law 1514 = .ok (.laload, 1) := by decide +kernel
theorem dL_law_1515 : decode cL_law 1515 = .ok (.iload 7, 2) := by decide +kernel
theorem dL_law_1517 : decode cL_law 1517 = .ok (.i2l, 1) := by decide +kernel
theorem dL_law_1518 : decode cL_law 1518 = .ok (.lcmp, 1) := by decide +kernel
theorem dL_law_1519 : decode cL_law 1519 = .ok (.ifCond .eq 5, 3) := by decide +kernel
theorem dL_law_1522 : decode cL_law 1522 = .ok (.iconst 0, 1) := by decide +kernel
theorem dL_law_1523 : decode cL_law 1523 = .ok (.ireturn, 1) := by decide +kernel
theorem dL_law_1524 : decode cL_law 1524 = .ok (.goto 676, 3) := by decide +kernel
theorem dL_law_1527 : decode cL_law 1527 = .ok (.aload_n 1, 1) := by decide +kernel
theorem dL_law_1528 : decode cL_law 1528 = .ok (.invokevirtual 199, 3) := by decide +kernel
theorem dL_law_1531 : decode cL_law 1531 = .ok (.aload_n 2, 1) := by decide +kernel
theorem dL_law_1532 : decode cL_law 1532 = .ok (.invokevirtual 202, 3) := by decide +kernel
theorem dL_law_1535 : decode cL_law 1535 = .ok (.if_icmp .eq 665, 3) := by decide +kernel
theorem dL_law_1538 : decode cL_law 1538 = .ok (.iconst 0, 1) := by decide +kernel
theorem dL_law_1539 : decode cL_law 1539 = .ok (.ireturn, 1) := by decide +kernel
theorem dL_law_1540 : decode cL_law 1540 = .ok (.aload_n 1, 1) := by decide +kernel
theorem dL_law_1541 : decode cL_law 1541 = .ok (.aload_n 0, 1) := by decide +kernel
theorem dL_law_1542 : decode cL_law 1542 = .ok (.iload 5, 2) := by decide +kernel
theorem dL_law_1544 : decode cL_law 1544 = .ok (.iconst 1, 1) := by decide +kernel
theorem dL_law_1545 : decode cL_law 1545 = .ok (.iadd, 1) := by decide +kernel
theorem dL_law_1546 : decode cL_law 1546 = .ok (.iaload, 1) := by decide +kernel
theorem dL_law_1547 : decode cL_law 1547 = .ok (.aload_n 3, 1) := by decide +kernel
theorem dL_law_1548 : decode cL_law 1548 = .ok (.invokestatic 203, 3) := by decide +kernel
theorem dL_law_1551 : decode cL_law 1551 = .ok (.istore 6, 2) := by decide +kernel
theorem dL_law_1553 : decode cL_law 1553 = .ok (.aload_n 2, 1) := by decide +kernel
theorem dL_law_1554 : decode cL_law 1554 = .ok (.aload_n 0, 1) := by decide +kernel
theorem dL_law_1555 : decode cL_law 1555 = .ok (.iload 5, 2) := by decide +kernel
theorem dL_law_1557 : decode cL_law 1557 = .ok (.iconst 1, 1) := by decide +kernel
theorem dL_law_1558 : decode cL_law 1558 = .ok (.iadd, 1) := by decide +kernel
theorem dL_law_1559 : decode cL_law 1559 = .ok (.iaload, 1) := by decide +kernel
theorem dL_law_1560 : decode cL_law 1560 = .ok (.invokevirtual 205, 3) := by decide +kernel
theorem dL_law_1563 : decode cL_law 1563 = .ok (.istore 7, 2) := by decide +kernel
theorem dL_law_1565 : decode cL_law 1565 = .ok (.aload_n 2, 1) := by decide +kernel
theorem dL_law_1566 : decode cL_law 1566 = .ok (.invokevirtual 131, 3) := by decide +kernel
theorem dL_law_1569 : decode cL_law 1569 = .ok (.iload 6, 2) := by decide +kernel
theorem dL_law_1571 : decode cL_law 1571 = .ok (.if_icmp .eq 5, 3) := by decide +kernel
theorem dL_law_1574 : decode cL_law 1574 = .ok (.iconst 0, 1) := by decide +kernel
theorem dL_law_1575 : decode cL_law 1575 = .ok (.ireturn, 1) := by decide +kernel
theorem dL_law_1576 : decode cL_law 1576 = .ok (.iload 6, 2) := by decide +kernel
theorem dL_law_1578 : decode cL_law 1578 = .ok (.ifCond .ne 15, 3) := by decide +kernel
theorem dL_law_1581 : decode cL_law 1581 = .ok (.aload_n 3, 1) := by decide +kernel
theorem dL_law_1582 : decode cL_law 1582 = .ok (.iconst 0, 1) := by decide +kernel
theorem dL_law_1583 : decode cL_law 1583 = .ok (.laload, 1) := by decide +kernel
theorem dL_law_1584 : decode cL_law 1584 = .ok (.iload 7, 2) := by decide +kernel
theorem dL_law_1586 : decode cL_law 1586 = .ok (.i2l, 1) := by decide +kernel
theorem dL_law_1587 : decode cL_law 1587 = .ok (.lcmp, 1) := by decide +kernel
theorem dL_law_1588 : decode cL_law 1588 = .ok (.ifCond .eq 5, 3) := by decide +kernel
theorem dL_law_1591 : decode cL_law 1591 = .ok (.iconst 0, 1) := by decide +kernel
theorem dL_law_1592 : decode cL_law 1592 = .ok (.ireturn, 1) := by decide +kernel
theorem dL_law_1593 : decode cL_law 1593 = .ok (.goto 607, 3) := by decide +kernel
theorem dL_law_1596 : decode cL_law 1596 = .ok (.aload_n 1, 1) := by decide +kernel
theorem dL_law_1597 : decode cL_law 1597 = .ok (.aload_n 0, 1) := by decide +kernel
theorem dL_law_1598 : decode cL_law 1598 = .ok (.iload 5, 2) := by decide +kernel
theorem dL_law_1600 : decode cL_law 1600 = .ok (.iconst 1, 1) := by decide +kernel
theorem dL_law_1601 : decode cL_law 1601 = .ok (.iadd, 1) := by decide +kernel
theorem dL_law_1602 : decode cL_law 1602 = .ok (.iaload, 1) := by decide +kernel
theorem dL_law_1603 : decode cL_law 1603 = .ok (.aload_n 3, 1) := by decide +kernel
theorem dL_law_1604 : decode cL_law 1604 = .ok (.invokestatic 206, 3) := by decide +kernel
theorem dL_law_1607 : decode cL_law 1607 = .ok (.istore 6, 2) := by decide +kernel
theorem dL_law_1609 : decode cL_law 1609 = .ok (.aload_n 2, 1) := by decide +kernel
theorem dL_law_1610 : decode cL_law 1610 = .ok (.aload_n 0, 1) := by decide +kernel
theorem dL_law_1611 : decode cL_law 1611 = .ok (.iload 5, 2) := by decide +kernel
theorem dL_law_1613 : decode cL_law 1613 = .ok (.iconst 1, 1) := by decide +kernel
theorem dL_law_1614 : decode cL_law 1614 = .ok (.iadd, 1) := by decide +kernel
theorem dL_law_1615 : decode cL_law 1615 = .ok (.iaload, 1) := by decide +kernel
theorem dL_law_1616 : decode cL_law 1616 = .ok (.invokevirtual 208, 3) := by decide +kernel
theorem dL_law_1619 : decode cL_law 1619 = .ok (.istore 7, 2) := by decide +kernel
theorem dL_law_1621 : decode cL_law 1621 = .ok (.aload_n 2, 1) := by decide +kernel
theorem dL_law_1622 : decode cL_law 1622 = .ok (.invokevirtual 131, 3) := by decide +kernel
theorem dL_law_1625 : decode cL_law 1625 = .ok (.iload 6, 2) := by decide +kernel
theorem dL_law_1627 : decode cL_law 1627 = .ok (.if_icmp .eq 5, 3) := by decide +kernel
theorem dL_law_1630 : decode cL_law 1630 = .ok (.iconst 0, 1) := by decide +kernel
theorem dL_law_1631 : decode cL_law 1631 = .ok (.ireturn, 1) := by decide +kernel
theorem dL_law_1632 : decode cL_law 1632 = .ok (.iload 6, 2) := by decide +kernel
theorem dL_law_1634 : decode cL_law 1634 = .ok (.ifCond .ne 15, 3) := by decide +kernel
theorem dL_law_1637 : decode cL_law 1637 = .ok (.aload_n 3, 1) := by decide +kernel
theorem dL_law_1638 : decode cL_law 1638 = .ok (.iconst 0, 1) := by decide +kernel
theorem dL_law_1639 : decode cL_law 1639 = .ok (.laload, 1) := by decide +kernel
theorem dL_law_1640 : decode cL_law 1640 = .ok (.iload 7, 2) := by decide +kernel
theorem dL_law_1642 : decode cL_law 1642 = .ok (.i2l, 1) := by decide +kernel
theorem dL_law_1643 : decode cL_law 1643 = .ok (.lcmp, 1) := by decide +kernel
theorem dL_law_1644 : decode cL_law 1644 = .ok (.ifCond .eq 5, 3) := by decide +kernel
theorem dL_law_1647 : decode cL_law 1647 = .ok (.iconst 0, 1) := by decide +kernel
theorem dL_law_1648 : decode cL_law 1648 = .ok (.ireturn, 1) := by decide +kernel
theorem dL_law_1649 : decode cL_law 1649 = .ok (.goto 551, 3) := by decide +kernel
theorem dL_law_1652 : decode cL_law 1652 = .ok (.aload_n 1, 1) := by decide +kernel
theorem dL_law_1653 : decode cL_law 1653 = .ok (.aload_n 0, 1) := by decide +kernel
theorem dL_law_1654 : decode cL_law 1654 = .ok (.iload 5, 2) := by decide +kernel
theorem dL_law_1656 : decode cL_law 1656 = .ok (.iconst 1, 1) := by decide +kernel
theorem dL_law_1657 : decode cL_law 1657 = .ok (.iadd, 1) := by decide +kernel
theorem dL_law_1658 : decode cL_law 1658 = .ok (.iaload, 1) := by decide +kernel
theorem dL_law_1659 : decode cL_law 1659 = .ok (.aload_n 3, 1) := by decide +kernel
theorem dL_law_1660 : decode cL_law 1660 = .ok (.invokestatic 209, 3) := by decide +kernel
theorem dL_law_1663 : decode cL_law 1663 = .ok (.istore 6, 2) := by decide +kernel
theorem dL_law_1665 : decode cL_law 1665 = .ok (.aload_n 2, 1) := by decide +kernel
theorem dL_law_1666 : decode cL_law 1666 = .ok (.aload_n 0, 1) := by decide +kernel
theorem dL_law_1667 : decode cL_law 1667 = .ok (.iload 5, 2) := by decide +kernel
theorem dL_law_1669 : decode cL_law 1669 = .ok (.iconst 1, 1) := by decide +kernel
theorem dL_law_1670 : decode cL_law 1670 = .ok (.iadd, 1) := by decide +kernel
theorem dL_law_1671 : decode cL_law 1671 = .ok (.iaload, 1) := by decide +kernel
theorem dL_law_1672 : decode cL_law 1672 = .ok (.invokevirtual 211, 3) := by decide +kernel
theorem dL_law_1675 : decode cL_law 1675 = .ok (.istore 7, 2) := by decide +kernel
theorem dL_law_1677 : decode cL_law 1677 = .ok (.aload_n 2, 1) := by decide +kernel
theorem dL_law_1678 : decode cL_law 1678 = .ok (.invokevirtual 131, 3) := by decide +kernel
theorem dL_law_1681 : decode cL_law 1681 = .ok (.iload 6, 2) := by decide +kernel
theorem dL_law_1683 : decode cL_law 1683 = .ok (.if_icmp .eq 5, 3) := by decide +kernel
theorem dL_law_1686 : decode cL_law 1686 = .ok (.iconst 0, 1) := by decide +kernel
theorem dL_law_1687 : decode cL_law 1687 = .ok (.ireturn, 1) := by decide +kernel
theorem dL_law_1688 : decode cL_law 1688 = .ok (.iload 6, 2) := by decide +kernel
theorem dL_law_1690 : decode cL_law 1690 = .ok (.ifCond .ne 15, 3) := by decide +kernel
theorem dL_law_1693 : decode cL_law 1693 = .ok (.aload_n 3, 1) := by decide +kernel
theorem dL_law_1694 : decode cL_law 1694 = .ok (.iconst 0, 1) := by decide +kernel
theorem dL_law_1695 : decode cL_law 1695 = .ok (.laload, 1) := by decide +kernel
theorem dL_law_1696 : decode cL_law 1696 = .ok (.iload 7, 2) := by decide +kernel
theorem dL_law_1698 : decode cL_law 1698 = .ok (.i2l, 1) := by decide +kernel
theorem dL_law_1699 : decode cL_law 1699 = .ok (.lcmp, 1) := by decide +kernel
theorem dL_law_1700 : decode cL_law 1700 = .ok (.ifCond .eq 5, 3) := by decide +kernel
theorem dL_law_1703 : decode cL_law 1703 = .ok (.iconst 0, 1) := by decide +kernel
theorem dL_law_1704 : decode cL_law 1704 = .ok (.ireturn, 1) := by decide +kernel
theorem dL_law_1705 : decode cL_law 1705 = .ok (.goto 495, 3) := by decide +kernel
theorem dL_law_1708 : decode cL_law 1708 = .ok (.aload_n 1, 1) := by decide +kernel
theorem dL_law_1709 : decode cL_law 1709 = .ok (.aload_n 0, 1) := by decide +kernel
theorem dL_law_1710 : decode cL_law 1710 = .ok (.iload 5, 2) := by decide +kernel
theorem dL_law_1712 : decode cL_law 1712 = .ok (.iconst 1, 1) := by decide +kernel
theorem dL_law_1713 : decode cL_law 1713 = .ok (.iadd, 1) := by decide +kernel
theorem dL_law_1714 : decode cL_law 1714 = .ok (.iaload, 1) := by decide +kernel
theorem dL_law_1715 : decode cL_law 1715 = .ok (.aload_n 3, 1) := by decide +kernel
theorem dL_law_1716 : decode cL_law 1716 = .ok (.invokestatic 212, 3) := by decide +kernel
theorem dL_law_1719 : decode cL_law 1719 = .ok (.istore 6, 2) := by decide +kernel
theorem dL_law_1721 : decode cL_law 1721 = .ok (.aload_n 2, 1) := by decide +kernel
theorem dL_law_1722 : decode cL_law 1722 = .ok (.aload_n 0, 1) := by decide +kernel
theorem dL_law_1723 : decode cL_law 1723 = .ok (.iload 5, 2) := by decide +kernel
theorem dL_law_1725 : decode cL_law 1725 = .ok (.iconst 1, 1) := by decide +kernel
theorem dL_law_1726 : decode cL_law 1726 = .ok (.iadd, 1) := by decide +kernel
theorem dL_law_1727 : decode cL_law 1727 = .ok (.iaload, 1) := by decide +kernel
theorem dL_law_1728 : decode cL_law 1728 = .ok (.invokevirtual 214, 3) := by decide +kernel
theorem dL_law_1731 : decode cL_law 1731 = .ok (.istore 7, 2) := by decide +kernel
theorem dL_law_1733 : decode cL_law 1733 = .ok (.aload_n 2, 1) := by decide +kernel
theorem dL_law_1734 : decode cL_law 1734 = .ok (.invokevirtual 131, 3) := by decide +kernel
theorem dL_law_1737 : decode cL_law 1737 = .ok (.iload 6, 2) := by decide +kernel
theorem dL_law_1739 : decode cL_law 1739 = .ok (.if_icmp .eq 5, 3) := by decide +kernel
theorem dL_law_1742 : decode cL_law 1742 = .ok (.iconst 0, 1) := by decide +kernel
theorem dL_law_1743 : decode cL_law 1743 = .ok (.ireturn, 1) := by decide +kernel
theorem dL_law_1744 : decode cL_law 1744 = .ok (.iload 6, 2) := by decide +kernel
theorem dL_law_1746 : decode cL_law 1746 = .ok (.ifCond .ne 22, 3) := by decide +kernel
theorem dL_law_1749 : decode cL_law 1749 = .ok (.aload_n 3, 1) := by decide +kernel
theorem dL_law_1750 : decode cL_law 1750 = .ok (.iconst 0, 1) := by decide +kernel
theorem dL_law_1751 : decode cL_law 1751 = .ok (.laload, 1) := by decide +kernel
theorem dL_law_1752 : decode cL_law 1752 = .ok (.iload 7, 2) := by decide +kernel
theorem dL_law_1754 : decode cL_law 1754 = .ok (.ifCond .eq 7, 3) := by decide +kernel
theorem dL_law_1757 : decode cL_law 1757 = .ok (.lconst 1, 1) := by decide +kernel
theorem dL_law_1758 : decode cL_law 1758 = .ok (.goto 4, 3) := by decide +kernel
theorem dL_law_1761 : decode cL_law 1761 = .ok (.lconst 0, 1) := by decide +kernel
theorem dL_law_1762 : decode cL_law 1762 = .ok (.lcmp, 1) := by decide +kernel
theorem dL_law_1763 : decode cL_law 1763 = .ok (.ifCond .eq 5, 3) := by decide +kernel
theorem dL_law_1766 : decode cL_law 1766 = .ok (.iconst 0, 1) := by decide +kernel
theorem dL_law_1767 : decode cL_law 1767 = .ok (.ireturn, 1) := by decide +kernel
theorem dL_law_1768 : decode cL_law 1768 = .ok (.goto 432, 3) := by decide +kernel
theorem dL_law_1771 : decode cL_law 1771 = .ok (.aload_n 1, 1) := by decide +kernel
theorem dL_law_1772 : decode cL_law 1772 = .ok (.aload_n 0, 1) := by decide +kernel
theorem dL_law_1773 : decode cL_law 1773 = .ok (.iload 5, 2) := by decide +kernel
theorem dL_law_1775 : decode cL_law 1775 = .ok (.iconst 1, 1) := by decide +kernel
theorem dL_law_1776 : decode cL_law 1776 = .ok (.iadd, 1) := by decide +kernel
theorem dL_law_1777 : decode cL_law 1777 = .ok (.iaload, 1) := by decide +kernel
theorem dL_law_1778 : decode cL_law 1778 = .ok (.aload_n 3, 1) := by decide +kernel
theorem dL_law_1779 : decode cL_law 1779 = .ok (.invokestatic 215, 3) := by decide +kernel
theorem dL_law_1782 : decode cL_law 1782 = .ok (.istore 6, 2) := by decide +kernel
theorem dL_law_1784 : decode cL_law 1784 = .ok (.aload_n 2, 1) := by decide +kernel
theorem dL_law_1785 : decode cL_law 1785 = .ok (.aload_n 0, 1) := by decide +kernel
theorem dL_law_1786 : decode cL_law 1786 = .ok (.iload 5, 2) := by decide +kernel
theorem dL_law_1788 : decode cL_law 1788 = .ok (.iconst 1, 1) := by decide +kernel
theorem dL_law_1789 : decode cL_law 1789 = .ok (.iadd, 1) := by decide +kernel
theorem dL_law_1790 : decode cL_law 1790 = .ok (.iaload, 1) := by decide +kernel
theorem dL_law_1791 : decode cL_law 1791 = .ok (.invokevirtual 217, 3) := by decide +kernel
theorem dL_law_1794 : decode cL_law 1794 = .ok (.istore 7, 2) := by decide +kernel
theorem dL_law_1796 : decode cL_law 1796 = .ok (.aload_n 2, 1) := by decide +kernel
theorem dL_law_1797 : decode cL_law 1797 = .ok (.invokevirtual 131, 3) := by decide +kernel
theorem dL_law_1800 : decode cL_law 1800 = .ok (.iload 6, 2) := by decide +kernel
theorem dL_law_1802 : decode cL_law 1802 = .ok (.if_icmp .eq 5, 3) := by decide +kernel
theorem dL_law_1805 : decode cL_law 1805 = .ok (.iconst 0, 1) := by decide +kernel
theorem dL_law_1806 : decode cL_law 1806 = .ok (.ireturn, 1) := by decide +kernel
theorem dL_law_1807 : decode cL_law 1807 = .ok (.iload 6, 2) := by decide +kernel
theorem dL_law_1809 : decode cL_law 1809 = .ok (.ifCond .ne 15, 3) := by decide +kernel
theorem dL_law_1812 : decode cL_law 1812 = .ok (.aload_n 3, 1) := by decide +kernel
theorem dL_law_1813 : decode cL_law 1813 = .ok (.iconst 0, 1) := by decide +kernel
theorem dL_law_1814 : decode cL_law 1814 = .ok (.laload, 1) := by decide +kernel
theorem dL_law_1815 : decode cL_law 1815 = .ok (.iload 7, 2) := by decide +kernel
theorem dL_law_1817 : decode cL_law 1817 = .ok (.i2l, 1) := by decide +kernel
theorem dL_law_1818 : decode cL_law 1818 = .ok (.lcmp, 1) := by decide +kernel
theorem dL_law_1819 : decode cL_law 1819 = .ok (.ifCond .eq 5, 3) := by decide +kernel
theorem dL_law_1822 : decode cL_law 1822 = .ok (.iconst 0, 1) := by decide +kernel
theorem dL_law_1823 : decode cL_law 1823 = .ok (.ireturn, 1) := by decide +kernel
theorem dL_law_1824 : decode cL_law 1824 = .ok (.goto 376, 3) := by decide +kernel
theorem dL_law_1827 : decode cL_law 1827 = .ok (.aload_n 1, 1) := by decide +kernel
theorem dL_law_1828 : decode cL_law 1828 = .ok (.invokevirtual 218, 3) := by decide +kernel
theorem dL_law_1831 : decode cL_law 1831 = .ok (.aload_n 2, 1) := by decide +kernel
theorem dL_law_1832 : decode cL_law 1832 = .ok (.invokevirtual 221, 3) := by decide +kernel
theorem dL_law_1835 : decode cL_law 1835 = .ok (.if_icmp .eq 365, 3) := by decide +kernel
theorem dL_law_1838 : decode cL_law 1838 = .ok (.iconst 0, 1) := by decide +kernel
theorem dL_law_1839 : decode cL_law 1839 = .ok (.ireturn, 1) := by decide +kernel
theorem dL_law_1840 : decode cL_law 1840 = .ok (.aload_n 1, 1) := by decide +kernel
theorem dL_law_1841 : decode cL_law 1841 = .ok (.aload_n 0, 1) := by decide +kernel
theorem dL_law_1842 : decode cL_law 1842 = .ok (.iload 5, 2) := by decide +kernel
theorem dL_law_1844 : decode cL_law 1844 = .ok (.iconst 1, 1) := by decide +kernel
theorem dL_law_1845 : decode cL_law 1845 = .ok (.iadd, 1) := by decide +kernel
theorem dL_law_1846 : decode cL_law 1846 = .ok (.iaload, 1) := by decide +kernel
theorem dL_law_1847 : decode cL_law 1847 = .ok (.aload_n 0, 1) := by decide +kernel
theorem dL_law_1848 : decode cL_law 1848 = .ok (.iload 5, 2) := by decide +kernel
theorem dL_law_1850 : decode cL_law 1850 = .ok (.iconst 2, 1) := by decide +kernel
theorem dL_law_1851 : decode cL_law 1851 = .ok (.iadd, 1) := by decide +kernel
theorem dL_law_1852 : decode cL_law 1852 = .ok (.iaload, 1) := by decide +kernel
theorem dL_law_1853 : decode cL_law 1853 = .ok (.aload_n 3, 1) := by decide +kernel
theorem dL_law_1854 : decode cL_law 1854 = .ok (.invokestatic 222, 3) := by decide +kernel
theorem dL_law_1857 : decode cL_law 1857 = .ok (.istore 6, 2) := by decide +kernel
theorem dL_law_1859 : decode cL_law 1859 = .ok (.aload_n 2, 1) := by decide +kernel
theorem dL_law_1860 : decode cL_law 1860 = .ok (.aload_n 0, 1) := by decide +kernel
theorem dL_law_1861 : decode cL_law 1861 = .ok (.iload 5, 2) := by decide +kernel
theorem dL_law_1863 : decode cL_law 1863 = .ok (.iconst 1, 1) := by decide +kernel
theorem dL_law_1864 : decode cL_law 1864 = .ok (.iadd, 1) := by decide +kernel
theorem dL_law_1865 : decode cL_law 1865 = .ok (.iaload, 1) := by decide +kernel
theorem dL_law_1866 : decode cL_law 1866 = .ok (.aload_n 0, 1) := by decide +kernel
theorem dL_law_1867 : decode cL_law 1867 = .ok (.iload 5, 2) := by decide +kernel
theorem dL_law_1869 : decode cL_law 1869 = .ok (.iconst 2, 1) := by decide +kernel
theorem dL_law_1870 : decode cL_law 1870 = .ok (.iadd, 1) := by decide +kernel
theorem dL_law_1871 : decode cL_law 1871 = .ok (.iaload, 1) := by decide +kernel
theorem dL_law_1872 : decode cL_law 1872 = .ok (.invokevirtual 224, 3) := by decide +kernel
theorem dL_law_1875 : decode cL_law 1875 = .ok (.istore 7, 2) := by decide +kernel
theorem dL_law_1877 : decode cL_law 1877 = .ok (.aload_n 2, 1) := by decide +kernel
theorem dL_law_1878 : decode cL_law 1878 = .ok (.invokevirtual 131, 3) := by decide +kernel
theorem dL_law_1881 : decode cL_law 1881 = .ok (.iload 6, 2) := by decide +kernel
theorem dL_law_1883 : decode cL_law 1883 = .ok (.if_icmp .eq 5, 3) := by decide +kernel
theorem dL_law_1886 : decode cL_law 1886 = .ok (.iconst 0, 1) := by decide +kernel
theorem dL_law_1887 : decode cL_law 1887 = .ok (.ireturn, 1) := by decide +kernel
theorem dL_law_1888 : decode cL_law 1888 = .ok (.iload 6, 2) := by decide +kernel
theorem dL_law_1890 : decode cL_law 1890 = .ok (.ifCond .ne 15, 3) := by decide +kernel
theorem dL_law_1893 : decode cL_law 1893 = .ok (.aload_n 3, 1) := by decide +kernel
theorem dL_law_1894 : decode cL_law 1894 = .ok (.iconst 0, 1) := by decide +kernel
theorem dL_law_1895 : decode cL_law 1895 = .ok (.laload, 1) := by decide +kernel
theorem dL_law_1896 : decode cL_law 1896 = .ok (.iload 7, 2) := by decide +kernel
theorem dL_law_1898 : decode cL_law 1898 = .ok (.i2l, 1) := by decide +kernel
theorem dL_law_1899 : decode cL_law 1899 = .ok (.lcmp, 1) := by decide +kernel
theorem dL_law_1900 : decode cL_law 1900 = .ok (.ifCond .eq 5, 3) := by decide +kernel
theorem dL_law_1903 : decode cL_law 1903 = .ok (.iconst 0, 1) := by decide +kernel
theorem dL_law_1904 : decode cL_law 1904 = .ok (.ireturn, 1) := by decide +kernel
theorem dL_law_1905 : decode cL_law 1905 = .ok (.goto 295, 3) := by decide +kernel
theorem dL_law_1908 : decode cL_law 1908 = .ok (.aload_n 1, 1) := by decide +kernel
theorem dL_law_1909 : decode cL_law 1909 = .ok (.aload_n 0, 1) := by decide +kernel
theorem dL_law_1910 : decode cL_law 1910 = .ok (.iload 5, 2) := by decide +kernel
theorem dL_law_1912 : decode cL_law 1912 = .ok (.iconst 1, 1) := by decide +kernel
theorem dL_law_1913 : decode cL_law 1913 = .ok (.iadd, 1) := by decide +kernel
theorem dL_law_1914 : decode cL_law 1914 = .ok (.iaload, 1) := by decide +kernel
theorem dL_law_1915 : decode cL_law 1915 = .ok (.aload_n 0, 1) := by decide +kernel
theorem dL_law_1916 : decode cL_law 1916 = .ok (.iload 5, 2) := by decide +kernel
theorem dL_law_1918 : decode cL_law 1918 = .ok (.iconst 2, 1) := by decide +kernel
theorem dL_law_1919 : decode cL_law 1919 = .ok (.iadd, 1) := by decide +kernel
theorem dL_law_1920 : decode cL_law 1920 = .ok (.iaload, 1) := by decide +kernel
theorem dL_law_1921 : decode cL_law 1921 = .ok (.aload_n 3, 1) := by decide +kernel
theorem dL_law_1922 : decode cL_law 1922 = .ok (.invokestatic 225, 3) := by decide +kernel
theorem dL_law_1925 : decode cL_law 1925 = .ok (.istore 6, 2) := by decide +kernel
theorem dL_law_1927 : decode cL_law 1927 = .ok (.aload_n 2, 1) := by decide +kernel
theorem dL_law_1928 : decode cL_law 1928 = .ok (.aload_n 0, 1) := by decide +kernel
theorem dL_law_1929 : decode cL_law 1929 = .ok (.iload 5, 2) := by decide +kernel
theorem dL_law_1931 : decode cL_law 1931 = .ok (.iconst 1, 1) := by decide +kernel
theorem dL_law_1932 : decode cL_law 1932 = .ok (.iadd, 1) := by decide +kernel
theorem dL_law_1933 : decode cL_law 1933 = .ok (.iaload, 1) := by decide +kernel
theorem dL_law_1934 : decode cL_law 1934 = .ok (.aload_n 0, 1) := by decide +kernel
theorem dL_law_1935 : decode cL_law 1935 = .ok (.iload 5, 2) := by decide +kernel
theorem dL_law_1937 : decode cL_law 1937 = .ok (.iconst 2, 1) := by decide +kernel
theorem dL_law_1938 : decode cL_law 1938 = .ok (.iadd, 1) := by decide +kernel
theorem dL_law_1939 : decode cL_law 1939 = .ok (.iaload, 1) := by decide +kernel
theorem dL_law_1940 : decode cL_law 1940 = .ok (.invokevirtual 227, 3) := by decide +kernel
theorem dL_law_1943 : decode cL_law 1943 = .ok (.istore 7, 2) := by decide +kernel
theorem dL_law_1945 : decode cL_law 1945 = .ok (.aload_n 2, 1) := by decide +kernel
theorem dL_law_1946 : decode cL_law 1946 = .ok (.invokevirtual 131, 3) := by decide +kernel
theorem dL_law_1949 : decode cL_law 1949 = .ok (.iload 6, 2) := by decide +kernel
theorem dL_law_1951 : decode cL_law 1951 = .ok (.if_icmp .eq 5, 3) := by decide +kernel
theorem dL_law_1954 : decode cL_law 1954 = .ok (.iconst 0, 1) := by decide +kernel
theorem dL_law_1955 : decode cL_law 1955 = .ok (.ireturn, 1) := by decide +kernel
theorem dL_law_1956 : decode cL_law 1956 = .ok (.iload 6, 2) := by decide +kernel
theorem dL_law_1958 : decode cL_law 1958 = .ok (.ifCond .ne 15, 3) := by decide +kernel
theorem dL_law_1961 : decode cL_law 1961 = .ok (.aload_n 3, 1) := by decide +kernel
theorem dL_law_1962 : decode cL_law 1962 = .ok (.iconst 0, 1) := by decide +kernel
theorem dL_law_1963 : decode cL_law 1963 = .ok (.laload, 1) := by decide +kernel
theorem dL_law_1964 : decode cL_law 1964 = .ok (.iload 7, 2) := by decide +kernel
theorem dL_law_1966 : decode cL_law 1966 = .ok (.i2l, 1) := by decide +kernel
theorem dL_law_1967 : decode cL_law 1967 = .ok (.lcmp, 1) := by decide +kernel
theorem dL_law_1968 : decode cL_law 1968 = .ok (.ifCond .eq 5, 3) := by decide +kernel
theorem dL_law_1971 : decode cL_law 1971 = .ok (.iconst 0, 1) := by decide +kernel
theorem dL_law_1972 : decode cL_law 1972 = .ok (.ireturn, 1) := by decide +kernel
theorem dL_law_1973 : decode cL_law 1973 = .ok (.goto 227, 3) := by decide +kernel
theorem dL_law_1976 : decode cL_law 1976 = .ok (.aload_n 1, 1) := by decide +kernel
theorem dL_law_1977 : decode cL_law 1977 = .ok (.invokevirtual 228, 3) := by decide +kernel
theorem dL_law_1980 : decode cL_law 1980 = .ok (.aload_n 2, 1) := by decide +kernel
theorem dL_law_1981 : decode cL_law 1981 = .ok (.invokevirtual 231, 3) := by decide +kernel
theorem dL_law_1984 : decode cL_law 1984 = .ok (.if_icmp .eq 216, 3) := by decide +kernel
theorem dL_law_1987 : decode cL_law 1987 = .ok (.iconst 0, 1) := by decide +kernel
theorem dL_law_1988 : decode cL_law 1988 = .ok (.ireturn, 1) := by decide +kernel
theorem dL_law_1989 : decode cL_law 1989 = .ok (.aload_n 1, 1) := by decide +kernel
theorem dL_law_1990 : decode cL_law 1990 = .ok (.aload_n 0, 1) := by decide +kernel
theorem dL_law_1991 : decode cL_law 1991 = .ok (.iload 5, 2) := by decide +kernel
theorem dL_law_1993 : decode cL_law 1993 = .ok (.iconst 1, 1) := by decide +kernel
theorem dL_law_1994 : decode cL_law 1994 = .ok (.iadd, 1) := by decide +kernel
theorem dL_law_1995 : decode cL_law 1995 = .ok (.iaload, 1) := by decide +kernel
theorem dL_law_1996 : decode cL_law 1996 = .ok (.aload_n 0, 1) := by decide +kernel
theorem dL_law_1997 : decode cL_law 1997 = .ok (.iload 5, 2) := by decide +kernel
theorem dL_law_1999 : decode cL_law 1999 = .ok (.iconst 2, 1) := by decide +kernel
theorem dL_law_2000 : decode cL_law 2000 = .ok (.iadd, 1) := by decide +kernel
theorem dL_law_2001 : decode cL_law 2001 = .ok (.iaload, 1) := by decide +kernel
theorem dL_law_2002 : decode cL_law 2002 = .ok (.aload_n 0, 1) := by decide +kernel
theorem dL_law_2003 : decode cL_law 2003 = .ok (.iload 5, 2) := by decide +kernel
theorem dL_law_2005 : decode cL_law 2005 = .ok (.iconst 3, 1) := by decide +kernel
theorem dL_law_2006 : decode cL_law 2006 = .ok (.iadd, 1) := by decide +kernel
theorem dL_law_2007 : decode cL_law 2007 = .ok (.iaload, 1) := by decide +kernel
theorem dL_law_2008 : decode cL_law 2008 = .ok (.aload_n 3, 1) := by decide +kernel
theorem dL_law_2009 : decode cL_law 2009 = .ok (.invokestatic 232, 3) := by decide +kernel
theorem dL_law_2012 : decode cL_law 2012 = .ok (.istore 6, 2) := by decide +kernel
theorem dL_law_2014 : decode cL_law 2014 = .ok (.aload_n 2, 1) := by decide +kernel
theorem dL_law_2015 : decode cL_law 2015 = .ok (.aload_n 0, 1) := by decide +kernel
theorem dL_law_2016 : decode cL_law 2016 = .ok (.iload 5, 2) := by decide +kernel
theorem dL_law_2018 : decode cL_law 2018 = .ok (.iconst 1, 1) := by decide +kernel
theorem dL_law_2019 : decode cL_law 2019 = .ok (.iadd, 1) := by decide +kernel
theorem dL_law_2020 : decode cL_law 2020 = .ok (.iaload, 1) := by decide +kernel
theorem dL_law_2021 : decode cL_law 2021 = .ok (.aload_n 0, 1) := by decide +kernel
theorem dL_law_2022 : decode cL_law 2022 = .ok (.iload 5, 2) := by decide +kernel
theorem dL_law_2024 : decode cL_law 2024 = .ok (.iconst 2, 1) := by decide +kernel
theorem dL_law_2025 : decode cL_law 2025 = .ok (.iadd, 1) := by decide +kernel
theorem dL_law_2026 : decode cL_law 2026 = .ok (.iaload, 1) := by decide +kernel
theorem dL_law_2027 : decode cL_law 2027 = .ok (.aload_n 0, 1) := by decide +kernel
theorem dL_law_2028 : decode cL_law 2028 = .ok (.iload 5, 2) := by decide +kernel
theorem dL_law_2030 : decode cL_law 2030 = .ok (.iconst 3, 1) := by decide +kernel
theorem dL_law_2031 : decode cL_law 2031 = .ok (.iadd, 1) := by decide +kernel
theorem dL_law_2032 : decode cL_law 2032 = .ok (.iaload, 1) := by decide +kernel
theorem dL_law_2033 : decode cL_law 2033 = .ok (.invokevirtual 234, 3) := by decide +kernel
theorem dL_law_2036 : decode cL_law 2036 = .ok (.istore 7, 2) := by decide +kernel
theorem dL_law_2038 : decode cL_law 2038 = .ok (.aload_n 2, 1) := by decide +kernel
theorem dL_law_2039 : decode cL_law 2039 = .ok (.invokevirtual 131, 3) := by decide +kernel
theorem dL_law_2042 : decode cL_law 2042 = .ok (.iload 6, 2) := by decide +kernel
theorem dL_law_2044 : decode cL_law 2044 = .ok (.if_icmp .eq 5, 3) := by decide +kernel
theorem dL_law_2047 : decode cL_law 2047 = .ok (.iconst 0, 1) := by decide +kernel
theorem dL_law_2048 : decode cL_law 2048 = .ok (.ireturn, 1) := by decide +kernel
theorem dL_law_2049 : decode cL_law 2049 = .ok (.iload 6, 2) := by decide +kernel
theorem dL_law_2051 : decode cL_law 2051 = .ok (.ifCond .ne 15, 3) := by decide +kernel
theorem dL_law_2054 : decode cL_law 2054 = .ok (.aload_n 3, 1) := by decide +kernel
theorem dL_law_2055 : decode cL_law 2055 = .ok (.iconst 0, 1) := by decide +kernel
theorem dL_law_2056 : decode cL_law 2056 = .ok (.laload, 1) := by decide +kernel
theorem dL_law_2057 : decode cL_law 2057 = .ok (.iload 7, 2) := by decide +kernel
theorem dL_law_2059 : decode cL_law 2059 = .ok (.i2l, 1) := by decide +kernel
theorem dL_law_2060 : decode cL_law 2060 = .ok (.lcmp, 1) := by decide +kernel
theorem dL_law_2061 : decode cL_law 2061 = .ok (.ifCond .eq 5, 3) := by decide +kernel
theorem dL_law_2064 : decode cL_law 2064 = .ok (.iconst 0, 1) := by decide +kernel
theorem dL_law_2065 : decode cL_law 2065 = .ok (.ireturn, 1) := by decide +kernel
theorem dL_law_2066 : decode cL_law 2066 = .ok (.goto 134, 3) := by decide +kernel
theorem dL_law_2069 : decode cL_law 2069 = .ok (.aload_n 1, 1) := by decide +kernel
theorem dL_law_2070 : decode cL_law 2070 = .ok (.aload 4, 2) := by decide +kernel
theorem dL_law_2072 : decode cL_law 2072 = .ok (.invokestatic 235, 3) := by decide +kernel
theorem dL_law_2075 : decode cL_law 2075 = .ok (.istore 6, 2) := by decide +kernel
theorem dL_law_2077 : decode cL_law 2077 = .ok (.aload_n 2, 1) := by decide +kernel
theorem dL_law_2078 : decode cL_law 2078 = .ok (.invokevirtual 238, 3) := by decide +kernel
theorem dL_law_2081 : decode cL_law 2081 = .ok (.fstore 7, 2) := by decide +kernel
theorem dL_law_2083 : decode cL_law 2083 = .ok (.aload_n 2, 1) := by decide +kernel
theorem dL_law_2084 : decode cL_law 2084 = .ok (.invokevirtual 131, 3) := by decide +kernel
theorem dL_law_2087 : decode cL_law 2087 = .ok (.iload 6, 2) := by decide +kernel
theorem dL_law_2089 : decode cL_law 2089 = .ok (.if_icmp .eq 5, 3) := by decide +kernel
theorem dL_law_2092 : decode cL_law 2092 = .ok (.iconst 0, 1) := by decide +kernel
theorem dL_law_2093 : decode cL_law 2093 = .ok (.ireturn, 1) := by decide +kernel
theorem dL_law_2094 : decode cL_law 2094 = .ok (.iload 6, 2) := by decide +kernel
theorem dL_law_2096 : decode cL_law 2096 = .ok (.ifCond .ne 36, 3) := by decide +kernel
theorem dL_law_2099 : decode cL_law 2099 = .ok (.aload 4, 2) := by decide +kernel
theorem dL_law_2101 : decode cL_law 2101 = .ok (.iconst 0, 1) := by decide +kernel
theorem dL_law_2102 : decode cL_law 2102 = .ok (.daload, 1) := by decide +kernel
theorem dL_law_2103 : decode cL_law 2103 = .ok (.fload 7, 2) := by decide +kernel
theorem dL_law_2105 : decode cL_law 2105 = .ok (.f2d, 1) := by decide +kernel
theorem dL_law_2106 : decode cL_law 2106 = .ok (.dcmp .l, 1) := by decide +kernel
theorem dL_law_2107 : decode cL_law 2107 = .ok (.ifCond .eq 25, 3) := by decide +kernel
theorem dL_law_2110 : decode cL_law 2110 = .ok (.aload 4, 2) := by decide +kernel
theorem dL_law_2112 : decode cL_law 2112 = .ok (.iconst 0, 1) := by decide +kernel
theorem dL_law_2113 : decode cL_law 2113 = .ok (.daload, 1) := by decide +kernel
theorem dL_law_2114 : decode cL_law 2114 = .ok (.aload 4, 2) := by decide +kernel
theorem dL_law_2116 : decode cL_law 2116 = .ok (.iconst 0, 1) := by decide +kernel
theorem dL_law_2117 : decode cL_law 2117 = .ok (.daload, 1) := by decide +kernel
theorem dL_law_2118 : decode cL_law 2118 = .ok (.dcmp .l, 1) := by decide +kernel
theorem dL_law_2119 : decode cL_law 2119 = .ok (.ifCond .eq 11, 3) := by decide +kernel
theorem dL_law_2122 : decode cL_law 2122 = .ok (.fload 7, 2) := by decide +kernel
theorem dL_law_2124 : decode cL_law 2124 = .ok (.fload 7, 2) := by decide +kernel
theorem dL_law_2126 : decode cL_law 2126 = .ok (.fcmp .l, 1) := by decide +kernel
theorem dL_law_2127 : decode cL_law 2127 = .ok (.ifCond .ne 5, 3) := by decide +kernel
theorem dL_law_2130 : decode cL_law 2130 = .ok (.iconst 0, 1) := by decide +kernel
theorem dL_law_2131 : decode cL_law 2131 = .ok (.ireturn, 1) := by decide +kernel
theorem dL_law_2132 : decode cL_law 2132 = .ok (.goto 68, 3) := by decide +kernel
theorem dL_law_2135 : decode cL_law 2135 = .ok (.aload_n 1, 1) := by decide +kernel
theorem dL_law_2136 : decode cL_law 2136 = .ok (.aload 4, 2) := by decide +kernel
theorem dL_law_2138 : decode cL_law 2138 = .ok (.invokestatic 239, 3) := by decide +kernel
theorem dL_law_2141 : decode cL_law 2141 = .ok (.istore 6, 2) := by decide +kernel
theorem dL_law_2143 : decode cL_law 2143 = .ok (.aload_n 2, 1) := by decide +kernel
theorem dL_law_2144 : decode cL_law 2144 = .ok (.invokevirtual 241, 3) := by decide +kernel
theorem dL_law_2147 : decode cL_law 2147 = .ok (.dstore 7, 2) := by decide +kernel
theorem dL_law_2149 : decode cL_law 2149 = .ok (.aload_n 2, 1) := by decide +kernel
theorem dL_law_2150 : decode cL_law 2150 = .ok (.invokevirtual 131, 3) := by decide +kernel
theorem dL_law_2153 : decode cL_law 2153 = .ok (.iload 6, 2) := by decide +kernel
theorem dL_law_2155 : decode cL_law 2155 = .ok (.if_icmp .eq 5, 3) := by decide +kernel
theorem dL_law_2158 : decode cL_law 2158 = .ok (.iconst 0, 1) := by decide +kernel
theorem dL_law_2159 : decode cL_law 2159 = .ok (.ireturn, 1) := by decide +kernel
theorem dL_law_2160 : decode cL_law 2160 = .ok (.iload 6, 2) := by decide +kernel
theorem dL_law_2162 : decode cL_law 2162 = .ok (.ifCond .ne 35, 3) := by decide +kernel
theorem dL_law_2165 : decode cL_law 2165 = .ok (.aload 4, 2) := by decide +kernel
theorem dL_law_2167 : decode cL_law 2167 = .ok (.iconst 0, 1) := by decide +kernel
theorem dL_law_2168 : decode cL_law 2168 = .ok (.daload, 1) := by decide +kernel
theorem dL_law_2169 : decode cL_law 2169 = .ok (.dload 7, 2) := by decide +kernel
theorem dL_law_2171 : decode cL_law 2171 = .ok (.dcmp .l, 1) := by decide +kernel
theorem dL_law_2172 : decode cL_law 2172 = .ok (.ifCond .eq 25, 3) := by decide +kernel
theorem dL_law_2175 : decode cL_law 2175 = .ok (.aload 4, 2) := by decide +kernel
theorem dL_law_2177 : decode cL_law 2177 = .ok (.iconst 0, 1) := by decide +kernel
theorem dL_law_2178 : decode cL_law 2178 = .ok (.daload, 1) := by decide +kernel
theorem dL_law_2179 : decode cL_law 2179 = .ok (.aload 4, 2) := by decide +kernel
theorem dL_law_2181 : decode cL_law 2181 = .ok (.iconst 0, 1) := by decide +kernel
theorem dL_law_2182 : decode cL_law 2182 = .ok (.daload, 1) := by decide +kernel
theorem dL_law_2183 : decode cL_law 2183 = .ok (.dcmp .l, 1) := by decide +kernel
theorem dL_law_2184 : decode cL_law 2184 = .ok (.ifCond .eq 11, 3) := by decide +kernel
theorem dL_law_2187 : decode cL_law 2187 = .ok (.dload 7, 2) := by decide +kernel
theorem dL_law_2189 : decode cL_law 2189 = .ok (.dload 7, 2) := by decide +kernel
theorem dL_law_2191 : decode cL_law 2191 = .ok (.dcmp .l, 1) := by decide +kernel
theorem dL_law_2192 : decode cL_law 2192 = .ok (.ifCond .ne 5, 3) := by decide +kernel
theorem dL_law_2195 : decode cL_law 2195 = .ok (.iconst 0, 1) := by decide +kernel
theorem dL_law_2196 : decode cL_law 2196 = .ok (.ireturn, 1) := by decide +kernel
theorem dL_law_2197 : decode cL_law 2197 = .ok (.goto 3, 3) := by decide +kernel
theorem dL_law_2200 : decode cL_law 2200 = .ok (.iinc 5 7, 3) := by decide +kernel
theorem dL_law_2203 : decode cL_law 2203 = .ok (.goto (-2175), 3) := by decide +kernel
theorem dL_law_2206 : decode cL_law 2206 = .ok (.iconst 1, 1) := by decide +kernel
theorem dL_law_2207 : decode cL_law 2207 = .ok (.ireturn, 1) := by decide +kernel
end
section
/-! ===== A MACHINE BY CELL NUMBERS: memory is four functions of a cell's number and a place; L gives each number its address ===== -/
abbrev pmM : Type := (Nat → Nat → Int32) × (Nat → Nat → Option Nat) × (Nat → Nat → Int64) × (Nat → Nat → UInt64)
abbrev pmKey : Type := MethodName × ByteArray × Nat × Option FieldType × List (Nat × Nat × Nat × Nat)
def pmV (L : Nat → Nat) (v : Value) : Value := match v with
  | .ref a => .ref (L a)
  | w => w
def pm2 {α : Type} (f : Nat → Nat → α) (i k : Nat) (v : α) : Nat → Nat → α := fun a b => if a = i ∧ b = k then v else f a b
/-- the kind and the length of each cell: kinds 0 Groups, 1 Rule, 2 ValueSet, 3 FilterRules, 4 FilterRulesModel, 5 int[], 6 boolean[], 7 Groups[], 8 Rule[], 9 ValueSet[], 10 int[][], 11 long[], 12 double[] -/
def psh (i : Nat) : Nat × Nat :=
  if i < 15 then (if i = 0 then (3, 9) else if i = 1 then (9, 8) else if i = 2 then (8, 8) else if i = 3 then (7, 3) else if i = 4 then (5, 32) else if i = 5 then (10, 9) else (5, 9))
  else if i < 31 then (if (i - 15) % 2 = 0 then (2, 3) else (5, 3))
  else if i < 55 then (if (i - 31) % 3 = 0 then (1, 10) else (5, 3))
  else if i < 64 then (if (i - 55) % 3 = 0 then (0, 3) else (5, 32))
  else (([(4, 24), (5, 8), (5, 24), (5, 24), (5, 8), (5, 16), (5, 8), (6, 8), (5, 8), (6, 8), (5, 24), (5, 8), (5, 8), (5, 8), (5, 8), (5, 8), (5, 8), (5, 8), (5, 194), (5, 8), (11, 1), (12, 1)] : List (Nat × Nat)).getD (i - 64) (5, 0))
/-- which fields hold an int -/
def pmTy (ci k : Nat) : Bool := match ci with
  | 0 => k == 2
  | 1 => decide (k < 8)
  | 2 => k == 1 || k == 2
  | 3 => k == 1 || k == 3 || k == 4 || k == 5
  | _ => decide (k < 3) || k == 8 || k == 9
abbrev pmCl : List vw_C := [(RX0, TX0, 3), (RX1, TX1, 10), (RX2, TX2, 3), (RX3, TX3, 9), (RX4, TX4, 24)]
def pmFt (ci : Nat) : Nat → FieldType := match ci with
  | 0 => tyX0
  | 1 => tyX1
  | 2 => tyX2
  | 3 => tyX3
  | _ => tyX4
def pmF (L : Nat → Nat) (M : pmM) (i ci k : Nat) : Value := if pmTy ci k = true then .int (M.1 i k) else va_rf ((M.2.1 i k).map L)
def pmAr (L : Nat → Nat) (M : pmM) (i : Nat) : (Nat → Int32) ⊕ (Nat → Int64) ⊕ (Nat → UInt32) ⊕ (Nat → UInt64) ⊕ (Nat → Option Nat) :=
  if (psh i).1 < 7 then .inl (M.1 i) else if (psh i).1 < 11 then .inr (.inr (.inr (.inr (fun j => (M.2.1 i j).map L)))) else if (psh i).1 = 11 then .inr (.inl (M.2.2.1 i)) else .inr (.inr (.inr (.inl (M.2.2.2 i))))
def pmE (cy : Nat → ClassId) (L : Nat → Nat) (M : pmM) (i : Nat) : va_E :=
  if (psh i).1 < 5 then .inr ((psh i).1, (List.range (psh i).2).map (pmF L M i (psh i).1)) else .inl (cy (psh i).1, (psh i).2, pmAr L M i)
def pmWl (cy : Nat → ClassId) (L : Nat → Nat) (M : pmM) (n : Nat) : va_W := (List.range n).map (fun i => (L i, pmE cy L M i))
def pmTys (cy : Nat → ClassId) : List (ClassId × FieldType) := [(cy 5, .int), (cy 6, .boolean), (cy 7, .object RX0), (cy 8, .object RX1), (cy 9, .object RX2), (cy 10, .array .int), (cy 11, .long), (cy 12, .double)]
/-- the words that go along by themselves, and those that are carried -/
def gw : List Cond := lw_tbl.filter goodWord
def pmN (w : Cond) : Bool := match w with
  | .fieldLinkNest .. => true
  | .methodLinkNest .. => true
  | .castable .. => true
  | .declares .. => true
  | _ => false
def nw : List Cond := lw_tbl.filter pmN
def sw : List Cond := lw_tbl.filter (fun w => match w with | .stringRef .. => true | _ => false)
theorem gw_of {w : Cond} (i : Nat) (h : lw_tbl[i]? = some w) (hg : goodWord w = true) : w ∈ gw := List.mem_filter.mpr ⟨List.mem_of_getElem? h, hg⟩
theorem nw_of {w : Cond} (i : Nat) (h : lw_tbl[i]? = some w) (hg : pmN w = true) : w ∈ nw := List.mem_filter.mpr ⟨List.mem_of_getElem? h, hg⟩
theorem gw_good {w : Cond} (h : w ∈ gw) : (w.onTables && w.keeps) = true ∨ ∃ ty, w = .arrayClass ty := good_of_word (List.mem_filter.mp h).2
theorem nw_warm {w : Cond} {s U : State} (hn : pmN w = true) (hW : s.WarmedH U.vm) (h : va_Nw w s) : va_Nw w U := by
  cases w <;> first | exact Bool.noConfusion (show false = true from hn) | exact va_Nw.warmF hW h | exact va_Nw.warmM hW h | exact va_Nw.warmC hW h | exact va_Nw.warmD hW h
def ncw : List (String × String) := [("java/lang/IllegalArgumentException", "java/lang/IndexOutOfBoundsException"), ("java/lang/IllegalStateException", "java/lang/IndexOutOfBoundsException"), ("java/lang/IllegalStateException", "java/lang/IllegalArgumentException"), ("java/lang/UnsupportedOperationException", "java/lang/IndexOutOfBoundsException"), ("java/lang/UnsupportedOperationException", "java/lang/IllegalArgumentException"), ("java/lang/IllegalStateException", "java/lang/UnsupportedOperationException"), ("java/util/NoSuchElementException", "java/lang/IndexOutOfBoundsException"), ("java/lang/IllegalArgumentException", "java/util/NoSuchElementException"), ("java/lang/IndexOutOfBoundsException", "java/util/NoSuchElementException"), ("java/lang/UnsupportedOperationException", "java/util/NoSuchElementException")]
def pmK (D : va_G) (cy : Nat → ClassId) (U : State) : Prop := va_K D pmCl (pmTys cy) U ∧ (∀ w ∈ nw, va_Nw w U) ∧ (∀ (own : String) (k : Nat) (tx : String), Cond.stringRef own k tx ∈ sw → ∃ a, vk_R own k tx a U) ∧ ∀ q ∈ ncw, va_Nc q.1 q.2 U
theorem pmK.warm {D : va_G} {cy : Nat → ClassId} {s U : State} (hW : s.WarmedH U.vm) (h : pmK D cy s) : pmK D cy U :=
  ⟨va_K.moved hW.alike h.1, fun w hw => nw_warm (List.mem_filter.mp hw).2 hW (h.2.1 w hw), fun own k tx hm => by obtain ⟨a, ha⟩ := h.2.2.1 own k tx hm; exact ⟨a, vk_R.warm hW ha⟩, fun q hq => va_Nc.moved hW.alike (h.2.2.2 q hq)⟩
def pmZ (A : Nat → Prop) (U : State) (H : Heap) : Prop := vx_Zq Bundle.tN "UNASSIGNED_STACK" Bundle.steD A U H ∧ vx_Zq Bundle.tN "SUPPRESSED_SENTINEL" Bundle.listD A U H
def pmX (l : Launch) (K : pmKey) (n : Nat) (p : Program) (s : State) (m : MethodId) (args : Array Value) (meth : Method) (c : Code) (D : va_G) (cy : Nat → ClassId) (L : Nat → Nat) (A : Nat → Prop) : Prop :=
  p.tables.exec = Jvm.exec ∧ c.code = K.2.1 ∧ c.maxLocals = K.2.2.1 ∧ s.vm.findClass K.1.cls = some m.cls ∧ (∀ w ∈ gw, w.before args s = true) ∧ meth.locks = false ∧ meth.sig.returnType = K.2.2.2.1 ∧
  c.exceptionTable.toList = tableOf K.2.2.2.2 ∧ meth.name = K.1.name ∧ l.stackTraces = false ∧ pmK D cy s ∧ pmZ A s s.heap ∧ (∀ q, s.heap.size ≤ q → A q) ∧ (∀ i j, i < n → j < n → L i = L j → i = j) ∧ ∀ i, i < n → A (L i)
def pmPr (L : Nat → Nat) : Nat → List (Option Value) → List (Nat × Value)
  | _, [] => []
  | i, none :: r => pmPr L (i + 1) r
  | i, some v :: r => (i, pmV L v) :: pmPr L (i + 1) r
abbrev pmG : Type := List Frame → Array Value → State → va_G → (Nat → ClassId) → (Nat → Nat) → (Nat → Prop) → State → Prop
/-- from here the method comes to its end -/
def Ev (l : Launch) (K : pmKey) (G : pmG) (R : Room) (n u w pc : Nat) (lo : List (Option Value)) (st : List Value) (M : pmM) : Prop :=
  ∀ (p : Program) (e : Env) (s : State) (m : MethodId) (args : Array Value) (below : List Frame) (meth : Method) (c : Code) (D : va_G) (cy : Nat → ClassId) (L : Nat → Nat) (A : Nat → Prop) (H : Heap) (locs : List Loc) (ls : Array Slot),
    pmX l K n p s m args meth c D cy L A → lv_has ls K.2.2.1 (pmPr L 0 lo) → va_P D pmCl (pmWl cy L M n) H → va_S A s.heap H locs →
    W p l e R s m args below meth c H locs u w (G below args s D cy L A) (F0 m pc ls (st.map (pmV L)))
/-! what a method's end is -/
abbrev pmRes : Type := Option Value ⊕ String
def pmQ (n : Nat) (res : pmRes) (M : pmM) (D : va_G) (cy : Nat → ClassId) (L : Nat → Nat) (A : Nat → Prop) : Array Value → State → Outcome → State → Prop := fun _ st oc t =>
  (∃ v, res = .inl v ∧ oc = .returned (v.map (pmV L))) ∧ va_P D pmCl (pmWl cy L M n) t.heap ∧ va_F A st t
def pmXr (n : Nat) (res : pmRes) (M : pmM) (D : va_G) (cy : Nat → ClassId) (L : Nat → Nat) (A : Nat → Prop) : String → State → State → Prop := fun E st t =>
  res = .inr E ∧ va_P D pmCl (pmWl cy L M n) t.heap ∧ va_F A st t
def gM (n mc ms : Nat) (res : pmRes) (M : pmM) : pmG := fun below args s D cy L A => vx_MQ below (pmQ n res M D cy L A) (pmXr n res M D cy L A) args s mc ms A
abbrev rmd (d mc ms : Nat) : Room := { frames := 10 * d, cells := mc, slots := ms, locals := 128 * d }
def pmPc (vs : List Value) (n : Nat) (M : pmM) (D : va_G) (cy : Nat → ClassId) (L : Nat → Nat) (A : Nat → Prop) : Array Value → State → Prop := fun v U =>
  v = (vs.map (pmV L)).toArray ∧ pmK D cy U ∧ pmZ A U U.heap ∧ (∀ q, U.heap.size ≤ q → A q) ∧ (∀ i j, i < n → j < n → L i = L j → i = j) ∧ (∀ i, i < n → A (L i)) ∧ va_P D pmCl (pmWl cy L M n) U.heap
def wU (K : pmKey) : List Cond := Cond.code K.1 K.2.1 K.2.2.1 K.2.2.2.1 :: gw
def wH (K : pmKey) : List Cond := Cond.codeWith K.1 K.2.1 K.2.2.1 K.2.2.2.1 K.2.2.2.2 :: gw
/-- the method K, called with vs over the memory M, ends with res over M' -/
def Sp (l : Launch) (K : pmKey) (n d mc ms : Nat) (vs : List Value) (M : pmM) (res : pmRes) (M' : pmM) : Prop :=
  ∀ (D : va_G) (cy : Nat → ClassId) (L : Nat → Nat) (A : Nat → Prop), vx_Met l K.1 (wU K) (rmd d mc ms) (pmPc vs n M D cy L A) (pmQ n res M' D cy L A) (pmXr n res M' D cy L A) mc ms A
def SpH (l : Launch) (K : pmKey) (n d mc ms : Nat) (vs : List Value) (M : pmM) (res : pmRes) (M' : pmM) : Prop :=
  ∀ (D : va_G) (cy : Nat → ClassId) (L : Nat → Nat) (A : Nat → Prop), vx_Met l K.1 (wH K) (rmd d mc ms) (pmPc vs n M D cy L A) (pmQ n res M' D cy L A) (pmXr n res M' D cy L A) mc ms A
/-! the entry -/
def pmLo (nL : Nat) (vs : List Value) : List (Option Value) := vs.map some ++ List.replicate (nL - vs.length) none
theorem pmV_cat (L : Nat → Nat) (v : Value) : (pmV L v).category = v.category := by cases v <;> rfl
theorem pmPr_none (L : Nat → Nat) : ∀ (k i : Nat), pmPr L i (List.replicate k none) = []
  | 0, _ => rfl
  | k + 1, i => by rw [List.replicate_succ]; exact pmPr_none L k (i + 1)
theorem pmPr_app (L : Nat → Nat) : ∀ (vs : List Value) (r : List (Option Value)) (i : Nat), pmPr L i (vs.map some ++ r) = (vs.zipIdx i).map (fun q => (q.2, pmV L q.1)) ++ pmPr L (i + vs.length) r
  | [], r, i => by simp
  | v :: vs, r, i => by
    show (i, pmV L v) :: pmPr L (i + 1) (vs.map some ++ r) = _
    rw [pmPr_app L vs r (i + 1)]
    simp [List.zipIdx_cons, Nat.add_assoc, Nat.add_comm 1]
theorem pm_args (L : Nat → Nat) : ∀ (vs : List Value) (i : Nat), (∀ v ∈ vs, v.category = 1) → lv_args i (vs.map (pmV L)) = (vs.zipIdx i).map (fun q => (q.2, pmV L q.1))
  | [], i, _ => rfl
  | v :: vs, i, h => by
    have h1 : (pmV L v).category = 1 := by rw [pmV_cat]; exact h v List.mem_cons_self
    have ih := pm_args L vs (i + 1) (fun x hx => h x (List.mem_cons_of_mem _ hx))
    rw [List.map_cons, List.zipIdx_cons, List.map_cons, ← ih]
    show (i, pmV L v) :: lv_args (if (pmV L v).category = 2 then i + 2 else i + 1) (vs.map (pmV L)) = _
    rw [if_neg (by omega)]
theorem pm_sl : ∀ (vs : List Value), (∀ v ∈ vs, v.category = 1) → (lg_sl vs).length = vs.length
  | [], _ => rfl
  | v :: vs, h => by
    have h1 := h v List.mem_cons_self
    have ih := pm_sl vs (fun x hx => h x (List.mem_cons_of_mem _ hx))
    show (List.flatMap (fun v => if v.category = 2 then [Slot.val v, .second] else [.val v]) (v :: vs)).length = _
    rw [List.flatMap_cons, if_neg (by omega), List.length_append, List.length_cons, List.length_nil, List.length_cons]
    have ih' : (List.flatMap (fun v => if v.category = 2 then [Slot.val v, .second] else [.val v]) vs).length = vs.length := ih
    omega
theorem pm_entry (L : Nat → Nat) (vs : List Value) {nL : Nat} (hn : vs.length ≤ nL) (hc : ∀ v ∈ vs, v.category = 1) (m : MethodId) :
    ∃ ls : Array Slot, entryFrame m (vs.map (pmV L)).toArray nL = F0 m 0 ls [] ∧ lv_has ls nL (pmPr L 0 (pmLo nL vs)) := by
  have hc' : ∀ v ∈ vs.map (pmV L), v.category = 1 := fun v hv => by
    obtain ⟨x, hx, rfl⟩ := List.mem_map.mp hv
    rw [pmV_cat]; exact hc x hx
  have hl := lv_entry (vs.map (pmV L)) (n := nL) (by rw [pm_sl _ hc', List.length_map]; exact hn)
  refine ⟨_, lg_entry_eq _ _ _, ?_⟩
  rw [pm_args L vs 0 hc] at hl
  unfold pmLo
  rw [pmPr_app, pmPr_none, List.append_nil]
  exact hl
end
section
/-! ===== locals, memory: how the picture is read and changed ===== -/
theorem pmPr_mem (L : Nat → Nat) : ∀ (lo : List (Option Value)) (i : Nat) (q : Nat × Value), q ∈ pmPr L i lo ↔ ∃ (k : Nat) (v : Value), lo[k]? = some (some v) ∧ q = (i + k, pmV L v)
  | [], i, q => by simp [pmPr]
  | none :: r, i, q => by
    show q ∈ pmPr L (i + 1) r ↔ _
    rw [pmPr_mem L r (i + 1) q]
    constructor
    · rintro ⟨k, v, h1, h2⟩
      exact ⟨k + 1, v, by simpa using h1, by rw [h2]; congr 1; omega⟩
    · rintro ⟨k, v, h1, h2⟩
      cases k with
      | zero => simp at h1
      | succ k => exact ⟨k, v, by simpa using h1, by rw [h2]; congr 1; omega⟩
  | some x :: r, i, q => by
    show q ∈ (i, pmV L x) :: pmPr L (i + 1) r ↔ _
    rw [List.mem_cons, pmPr_mem L r (i + 1) q]
    constructor
    · rintro (h | ⟨k, v, h1, h2⟩)
      · exact ⟨0, x, rfl, h⟩
      · exact ⟨k + 1, v, by simpa using h1, by rw [h2]; congr 1; omega⟩
    · rintro ⟨k, v, h1, h2⟩
      cases k with
      | zero =>
        left
        simp at h1
        rw [h2, h1]; rfl
      | succ k => exact Or.inr ⟨k, v, by simpa using h1, by rw [h2]; congr 1; omega⟩
theorem pm_get {L : Nat → Nat} {ls : Array Slot} {nL i : Nat} {lo : List (Option Value)} {v : Value} (h : lv_has ls nL (pmPr L 0 lo)) (hi : lo[i]? = some (some v)) : ls[i]? = some (.val (pmV L v)) :=
  h.2.2 (i, pmV L v) ((pmPr_mem L lo 0 _).mpr ⟨i, v, hi, by rw [Nat.zero_add]⟩)
def pmNW (o : Option Value) : Bool := match o with
  | some (.long _) => false
  | some (.double _) => false
  | _ => true
theorem pm_store {L : Nat → Nat} {ls : Array Slot} {nL i : Nat} {lo : List (Option Value)} {v : Value} (h : lv_has ls nL ((i, pmV L v) :: (pmPr L 0 lo).filter (fun q => !(q.1 == i) && !(q.1 + 1 == i && q.2.category == 2)))) (hw : ∀ k o, k + 1 = i → lo[k]? = some o → pmNW o = true) : lv_has ls nL (pmPr L 0 (lo.set i (some v))) := by
  refine ⟨h.1, h.2.1, fun q hq => h.2.2 q ?_⟩
  obtain ⟨k, x, h1, rfl⟩ := (pmPr_mem L _ 0 q).mp hq
  rw [Nat.zero_add]
  by_cases hk : k = i
  · subst hk
    have hl : k < lo.length := by
      have := (List.getElem?_eq_some_iff.mp h1).1
      rwa [List.length_set] at this
    rw [List.getElem?_set_self hl] at h1
    cases h1
    exact List.mem_cons_self
  · rw [List.getElem?_set_ne (Ne.symm hk)] at h1
    refine List.mem_cons_of_mem _ (List.mem_filter.mpr ⟨(pmPr_mem L lo 0 _).mpr ⟨k, x, h1, by rw [Nat.zero_add]⟩, ?_⟩)
    have hc : k + 1 = i → x.category = 1 := fun e => by
      have := hw k _ e h1
      cases x <;> first | rfl | cases this
    by_cases e : k + 1 = i
    · simp [hk, pmV_cat, hc e]
    · simp [hk, e]
theorem pm_store2 {L : Nat → Nat} {ls : Array Slot} {nL i : Nat} {lo : List (Option Value)} {v : Value} (h : lv_has ls nL ((i, pmV L v) :: (pmPr L 0 lo).filter (fun q => !(q.1 == i) && (!(q.1 == i + 1) && !(q.1 + 1 == i && q.2.category == 2))))) (hw : ∀ k o, k + 1 = i → lo[k]? = some o → pmNW o = true) : lv_has ls nL (pmPr L 0 ((lo.set i (some v)).set (i + 1) none)) := by
  refine ⟨h.1, h.2.1, fun q hq => h.2.2 q ?_⟩
  obtain ⟨k, x, h1, rfl⟩ := (pmPr_mem L _ 0 q).mp hq
  rw [Nat.zero_add]
  by_cases hk1 : k = i + 1
  · subst hk1
    have hl : i + 1 < (lo.set i (some v)).length := by
      have := (List.getElem?_eq_some_iff.mp h1).1
      rwa [List.length_set] at this
    rw [List.getElem?_set_self hl] at h1
    cases h1
  rw [List.getElem?_set_ne (Ne.symm hk1)] at h1
  by_cases hk : k = i
  · subst hk
    have hl : k < lo.length := by
      have := (List.getElem?_eq_some_iff.mp h1).1
      rwa [List.length_set] at this
    rw [List.getElem?_set_self hl] at h1
    cases h1
    exact List.mem_cons_self
  · rw [List.getElem?_set_ne (Ne.symm hk)] at h1
    refine List.mem_cons_of_mem _ (List.mem_filter.mpr ⟨(pmPr_mem L lo 0 _).mpr ⟨k, x, h1, by rw [Nat.zero_add]⟩, ?_⟩)
    have hc : k + 1 = i → x.category = 1 := fun e => by
      have := hw k _ e h1
      cases x <;> first | rfl | cases this
    by_cases e : k + 1 = i
    · simp [hk, hk1, pmV_cat, hc e]
    · simp [hk, hk1, e]
/-! the world's cells -/
theorem pmWl_get {cy : Nat → ClassId} {L : Nat → Nat} {M : pmM} {n i : Nat} (hi : i < n) : (pmWl cy L M n)[i]? = some (L i, pmE cy L M i) := by
  simp [pmWl, hi]
theorem pmWl_D {A : Nat → Prop} {cy : Nat → ClassId} {L : Nat → Nat} {M : pmM} {n : Nat} (hi : ∀ i j, i < n → j < n → L i = L j → i = j) (hA : ∀ i, i < n → A (L i)) : va_D A (pmWl cy L M n) := by
  have key : ∀ (k : Nat) (q : Nat × va_E), (pmWl cy L M n)[k]? = some q → k < n ∧ q.1 = L k := by
    intro k q hk
    have hl : k < n := by
      have := (List.getElem?_eq_some_iff.mp hk).1
      simpa [pmWl] using this
    rw [pmWl_get hl] at hk
    cases hk
    exact ⟨hl, rfl⟩
  refine ⟨fun i j p q h1 h2 e => ?_, fun k q hk => ?_⟩
  · obtain ⟨a1, b1⟩ := key i p h1
    obtain ⟨a2, b2⟩ := key j q h2
    exact hi i j a1 a2 (by rw [← b1, ← b2]; exact e)
  · obtain ⟨a1, b1⟩ := key k q hk
    rw [b1]
    exact hA k a1
theorem pmWl_set {cy : Nat → ClassId} {L : Nat → Nat} {M M' : pmM} {n i : Nat} {e : va_E} (he : e = pmE cy L M' i) (ho : ∀ j, j < n → j ≠ i → pmE cy L M' j = pmE cy L M j) : (pmWl cy L M n).set i (L i, e) = pmWl cy L M' n := by
  apply List.ext_getElem?
  intro k
  by_cases hk : k < n
  · by_cases e1 : k = i
    · subst e1
      rw [List.getElem?_set_self (by simp [pmWl, hk]), pmWl_get hk, he]
    · rw [List.getElem?_set_ne (Ne.symm e1), pmWl_get hk, pmWl_get hk, ho k hk e1]
  · rw [List.getElem?_eq_none (by simp [pmWl]; omega), List.getElem?_eq_none (by simp [pmWl]; omega)]
theorem pmE_obj {cy : Nat → ClassId} {L : Nat → Nat} {M : pmM} {i ci N : Nat} (h : psh i = (ci, N)) (hc : ci < 5) : pmE cy L M i = .inr (ci, (List.range N).map (pmF L M i ci)) := by
  unfold pmE
  rw [h, if_pos hc]
theorem pmE_int {cy : Nat → ClassId} {L : Nat → Nat} {M : pmM} {i k N : Nat} (h : psh i = (k, N)) (h5 : k = 5 ∨ k = 6) : pmE cy L M i = .inl (cy k, N, .inl (M.1 i)) := by
  unfold pmE pmAr
  rw [h, if_neg (by show ¬ k < 5; omega), if_pos (by show k < 7; omega)]
theorem pmE_ref {cy : Nat → ClassId} {L : Nat → Nat} {M : pmM} {i k N : Nat} (h : psh i = (k, N)) (h5 : 7 ≤ k) (h6 : k < 11) : pmE cy L M i = .inl (cy k, N, .inr (.inr (.inr (.inr (fun j => (M.2.1 i j).map L))))) := by
  unfold pmE pmAr
  rw [h, if_neg (by show ¬ k < 5; omega), if_neg (by show ¬ k < 7; omega), if_pos (by show k < 11; omega)]
theorem pmE_long {cy : Nat → ClassId} {L : Nat → Nat} {M : pmM} {i N : Nat} (h : psh i = (11, N)) : pmE cy L M i = .inl (cy 11, N, .inr (.inl (M.2.2.1 i))) := by
  unfold pmE pmAr
  rw [h, if_neg (show ¬ (11 : Nat) < 5 by decide), if_neg (show ¬ (11 : Nat) < 7 by decide), if_neg (show ¬ (11 : Nat) < 11 by decide), if_pos (show (11 : Nat) = 11 from rfl)]
theorem pmE_double {cy : Nat → ClassId} {L : Nat → Nat} {M : pmM} {i N : Nat} (h : psh i = (12, N)) : pmE cy L M i = .inl (cy 12, N, .inr (.inr (.inr (.inl (M.2.2.2 i))))) := by
  unfold pmE pmAr
  rw [h, if_neg (show ¬ (12 : Nat) < 5 by decide), if_neg (show ¬ (12 : Nat) < 7 by decide), if_neg (show ¬ (12 : Nat) < 11 by decide), if_neg (show ¬ (12 : Nat) = 11 by decide)]
/-- cells that hold the same are the same -/
theorem pmE_congr {cy : Nat → ClassId} {L : Nat → Nat} {M M' : pmM} {i : Nat} (h1 : M'.1 i = M.1 i) (h2 : M'.2.1 i = M.2.1 i) (h3 : M'.2.2.1 i = M.2.2.1 i) (h4 : M'.2.2.2 i = M.2.2.2 i) : pmE cy L M' i = pmE cy L M i := by
  have hF : pmF L M' i (psh i).1 = pmF L M i (psh i).1 := by
    funext k
    unfold pmF
    rw [h1, h2]
  unfold pmE pmAr
  rw [hF, h1, h2, h3, h4]
theorem pm2_ne {α : Type} {f : Nat → Nat → α} {i k j : Nat} {v : α} (h : j ≠ i) : pm2 f i k v j = f j := by
  funext b
  simp [pm2, h]
theorem pm2_self {f : Nat → Nat → Int32} {i k : Nat} {v : Int32} : pm2 f i k v i = upd (f i) k v := by
  funext b
  simp [pm2, upd]
theorem pm2_selfL {f : Nat → Nat → Int64} {i k : Nat} {v : Int64} : pm2 f i k v i = vp_updL (f i) k v := by
  funext b
  simp [pm2, vp_updL]
theorem pm2_selfD {f : Nat → Nat → UInt64} {i k : Nat} {v : UInt64} : pm2 f i k v i = vf_upd (f i) k v := by
  funext b
  simp [pm2, vf_upd]
theorem pm2_selfR {L : Nat → Nat} {f : Nat → Nat → Option Nat} {i k b : Nat} : (fun j => (pm2 f i k (some b) i j).map L) = va_up (fun j => (f i j).map L) k (some (L b)) := by
  funext j
  by_cases h : j = k
  · subst h; simp [pm2, va_up]
  · simp [pm2, va_up, h]
theorem pmV_rf (L : Nat → Nat) (o : Option Nat) : va_rf (o.map L) = pmV L (va_rf o) := by cases o <;> rfl
theorem pm_fset {L : Nat → Nat} {M M' : pmM} {i ci N k : Nat} {v : Value} (hk : k < N) (hv : pmF L M' i ci k = v) (ho : ∀ j, j ≠ k → pmF L M' i ci j = pmF L M i ci j) : ((List.range N).map (pmF L M i ci)).set k v = (List.range N).map (pmF L M' i ci) := by
  apply List.ext_getElem?
  intro j
  by_cases hj : j < N
  · by_cases e : j = k
    · subst e
      rw [List.getElem?_set_self (by simp [hj])]
      simp [hj, hv]
    · rw [List.getElem?_set_ne (Ne.symm e)]
      simp [hj, ho j e]
  · rw [List.getElem?_eq_none (by simp; omega), List.getElem?_eq_none (by simp; omega)]
theorem pm_cls (ci : Nat) (C : String) (T : u_T) (N : Nat) (h : pmCl[ci]? = some (C, T, N)) : (∀ w ∈ u_ws C T N, w ∈ gw) ∧ (∀ k, k < N → parseFieldDescriptor (T k).2.2.1 = some (pmFt ci k)) ∧ ∀ a, a < N → ∀ b, b < N → a ≠ b → (T a).2.1 ≠ (T b).2.1 := by
  match ci, h with
  | 0, h => cases h; exact ⟨by decide +kernel, tyX0_ok, nmX0⟩
  | 1, h => cases h; exact ⟨by decide +kernel, tyX1_ok, nmX1⟩
  | 2, h => cases h; exact ⟨by decide +kernel, tyX2_ok, nmX2⟩
  | 3, h => cases h; exact ⟨by decide +kernel, tyX3_ok, nmX3⟩
  | 4, h => cases h; exact ⟨by decide +kernel, tyX4_ok, nmX4⟩
  | k + 5, h => simp at h
/-- a field's link: place idx of own's file is field k of class ci -/
def pmLk (own : String) (idx ci k : Nat) (q : Bool) : Prop := ∃ (C : String) (T : u_T) (N : Nat), pmCl[ci]? = some (C, T, N) ∧ k < N ∧ ((T k).2.2.2 = false ∨ q = false) ∧ (Cond.fieldLink own idx (T k).1 (T k).2.1 (T k).2.2.1 ∈ gw ∨ ∃ host, Cond.fieldLinkNest own idx (T k).1 (T k).2.1 (T k).2.2.1 host ∈ nw)
end
section
/-! ===== the rules, one an instruction ===== -/
def pmNf (ci : Nat) : Nat := match ci with
  | 0 => 3
  | 1 => 10
  | 2 => 3
  | 3 => 9
  | _ => 24
theorem psh_tail (k : Nat) : ∀ q : Nat × Nat, (([(4, 24), (5, 8), (5, 24), (5, 24), (5, 8), (5, 16), (5, 8), (6, 8), (5, 8), (6, 8), (5, 24), (5, 8), (5, 8), (5, 8), (5, 8), (5, 8), (5, 8), (5, 8), (5, 194), (5, 8), (11, 1), (12, 1)] : List (Nat × Nat)).getD k (5, 0)) = q → (q.1 < 5 → q.2 = pmNf q.1) ∧ q.2 < 2 ^ 31 := by
  intro q hq
  subst hq
  by_cases hk : k < 22
  · exact (show ∀ k, k < 22 → ((([(4, 24), (5, 8), (5, 24), (5, 24), (5, 8), (5, 16), (5, 8), (6, 8), (5, 8), (6, 8), (5, 24), (5, 8), (5, 8), (5, 8), (5, 8), (5, 8), (5, 8), (5, 8), (5, 194), (5, 8), (11, 1), (12, 1)] : List (Nat × Nat)).getD k (5, 0)).1 < 5 → (([(4, 24), (5, 8), (5, 24), (5, 24), (5, 8), (5, 16), (5, 8), (6, 8), (5, 8), (6, 8), (5, 24), (5, 8), (5, 8), (5, 8), (5, 8), (5, 8), (5, 8), (5, 8), (5, 194), (5, 8), (11, 1), (12, 1)] : List (Nat × Nat)).getD k (5, 0)).2 = pmNf (([(4, 24), (5, 8), (5, 24), (5, 24), (5, 8), (5, 16), (5, 8), (6, 8), (5, 8), (6, 8), (5, 24), (5, 8), (5, 8), (5, 8), (5, 8), (5, 8), (5, 8), (5, 8), (5, 194), (5, 8), (11, 1), (12, 1)] : List (Nat × Nat)).getD k (5, 0)).1) ∧ (([(4, 24), (5, 8), (5, 24), (5, 24), (5, 8), (5, 16), (5, 8), (6, 8), (5, 8), (6, 8), (5, 24), (5, 8), (5, 8), (5, 8), (5, 8), (5, 8), (5, 8), (5, 8), (5, 194), (5, 8), (11, 1), (12, 1)] : List (Nat × Nat)).getD k (5, 0)).2 < 2 ^ 31 from by decide +kernel) k hk
  · rw [List.getD_eq_getElem?_getD, List.getElem?_eq_none (by simp; omega)]
    exact ⟨fun h => absurd h (by decide), by decide⟩
theorem psh_ok (a : Nat) : ((psh a).1 < 5 → (psh a).2 = pmNf (psh a).1) ∧ (psh a).2 < 2 ^ 31 := by
  generalize hq : psh a = q
  unfold psh at hq
  repeat' split at hq
  all_goals first
    | exact psh_tail _ q hq
    | (subst hq; exact ⟨fun _ => rfl, by decide⟩)
    | (subst hq; exact ⟨fun h => absurd h (by decide), by decide⟩)
theorem pm_len {a ci N : Nat} (h : psh a = (ci, N)) (hc : ci < 5 := by decide) : N = pmNf ci := by
  have := (psh_ok a).1
  rw [h] at this
  exact this hc
theorem pm_len31 (a : Nat) : (psh a).2 < 2 ^ 31 := (psh_ok a).2
section EVR
variable {l : Launch} {K : pmKey} {G : pmG} {R : Room} {n u w pc pc' : Nat} {lo : List (Option Value)} {st : List Value} {M : pmM}

theorem e_iconst {z : Int} {v : Int32} (hd : decode K.2.1 pc = .ok (.iconst z, 1)) (hp : pc + 1 = pc') (hv : Int32.ofInt z = v) (kk : Ev l K G R n u w pc' lo (.int v :: st) M) : Ev l K G R n u w pc lo st M := by
  subst hp
  exact fun p e s m args below meth c D cy L A H locs ls X hl hP hS => lv_iconst X.1 X.2.1 hd hv (kk p e s m args below meth c D cy L A H locs ls X hl hP hS)
theorem e_bipush {z : Int} {v : Int32} (hd : decode K.2.1 pc = .ok (.bipush z, 2)) (hp : pc + 2 = pc') (hv : (Int8.ofInt z).toInt32 = v) (kk : Ev l K G R n u w pc' lo (.int v :: st) M) : Ev l K G R n u w pc lo st M := by
  subst hp
  exact fun p e s m args below meth c D cy L A H locs ls X hl hP hS => lv_bipush X.1 X.2.1 hd hv (kk p e s m args below meth c D cy L A H locs ls X hl hP hS)
theorem e_sipush {z : Int} {v : Int32} (hd : decode K.2.1 pc = .ok (.sipush z, 3)) (hp : pc + 3 = pc') (hv : (Int16.ofInt z).toInt32 = v) (kk : Ev l K G R n u w pc' lo (.int v :: st) M) : Ev l K G R n u w pc lo st M := by
  subst hp
  exact fun p e s m args below meth c D cy L A H locs ls X hl hP hS => lv_sipush X.1 X.2.1 hd hv (kk p e s m args below meth c D cy L A H locs ls X hl hP hS)
theorem e_lconst {z : Fin 2} {v : Int64} (hd : decode K.2.1 pc = .ok (.lconst z, 1)) (hp : pc + 1 = pc') (hv : Int64.ofNat (z : Nat) = v) (kk : Ev l K G R n u w pc' lo (.long v :: st) M) : Ev l K G R n u w pc lo st M := by
  subst hp
  exact fun p e s m args below meth c D cy L A H locs ls X hl hP hS => lv_lconst X.1 X.2.1 hd hv (kk p e s m args below meth c D cy L A H locs ls X hl hP hS)
theorem e_fconst0 (hd : decode K.2.1 pc = .ok (.fconst 0, 1)) (hp : pc + 1 = pc') (kk : Ev l K G R n u w pc' lo (.float FP.fconst0 :: st) M) : Ev l K G R n u w pc lo st M := by
  subst hp
  exact fun p e s m args below meth c D cy L A H locs ls X hl hP hS => lv_fconst0 X.1 X.2.1 hd (kk p e s m args below meth c D cy L A H locs ls X hl hP hS)
theorem e_dconst0 (hd : decode K.2.1 pc = .ok (.dconst 0, 1)) (hp : pc + 1 = pc') (kk : Ev l K G R n u w pc' lo (.double FP.dconst0 :: st) M) : Ev l K G R n u w pc lo st M := by
  subst hp
  exact fun p e s m args below meth c D cy L A H locs ls X hl hP hS => lv_dconst0 X.1 X.2.1 hd (kk p e s m args below meth c D cy L A H locs ls X hl hP hS)
theorem e_ldcw {idx : Nat} {v : Int32} (hd : decode K.2.1 pc = .ok (.ldc_w idx, 3)) (hp : pc + 3 = pc') (hw : Cond.constant K.1.cls idx v ∈ gw) (kk : Ev l K G R n u w pc' lo (.int v :: st) M) : Ev l K G R n u w pc lo st M := by
  subst hp
  exact fun p e s m args below meth c D cy L A H locs ls X hl hP hS => lv_ldcw X.1 X.2.1 X.2.2.2.1 (X.2.2.2.2.1 _ hw) hd (kk p e s m args below meth c D cy L A H locs ls X hl hP hS)

theorem e_iload_n {i : Nat} {x : Int32} {k : Fin 4} (hi : (k : Nat) = i) (hd : decode K.2.1 pc = .ok (.iload_n k, 1)) (hp : pc + 1 = pc') (h : lo[i]? = some (some (.int x))) (kk : Ev l K G R n u w pc' lo (.int x :: st) M) : Ev l K G R n u w pc lo st M := by
  subst hp
  exact fun p e s m args below meth c D cy L A H locs ls X hl hP hS => lv_iload_n X.1 X.2.1 hd hi (pm_get hl h) (kk p e s m args below meth c D cy L A H locs ls X hl hP hS)

theorem e_iload {i : Nat} {x : Int32} (hd : decode K.2.1 pc = .ok (.iload i, 2)) (hp : pc + 2 = pc') (h : lo[i]? = some (some (.int x))) (kk : Ev l K G R n u w pc' lo (.int x :: st) M) : Ev l K G R n u w pc lo st M := by
  subst hp
  exact fun p e s m args below meth c D cy L A H locs ls X hl hP hS => lv_iload X.1 X.2.1 hd (pm_get hl h) (kk p e s m args below meth c D cy L A H locs ls X hl hP hS)

theorem e_iload_0 {r : List (Option Value)} {x : Int32} (hd : decode K.2.1 pc = .ok (.iload_n 0, 1)) (hp : pc + 1 = pc') (kk : Ev l K G R n u w pc' (some (.int x) :: r) (.int x :: st) M) : Ev l K G R n u w pc (some (.int x) :: r) st M :=
  e_iload_n (k := 0) (i := 0) rfl hd hp rfl kk

theorem e_iload_1 {o0 : Option Value} {r : List (Option Value)} {x : Int32} (hd : decode K.2.1 pc = .ok (.iload_n 1, 1)) (hp : pc + 1 = pc') (kk : Ev l K G R n u w pc' (o0 :: some (.int x) :: r) (.int x :: st) M) : Ev l K G R n u w pc (o0 :: some (.int x) :: r) st M :=
  e_iload_n (k := 1) (i := 1) rfl hd hp rfl kk

theorem e_iload_2 {o0 o1 : Option Value} {r : List (Option Value)} {x : Int32} (hd : decode K.2.1 pc = .ok (.iload_n 2, 1)) (hp : pc + 1 = pc') (kk : Ev l K G R n u w pc' (o0 :: o1 :: some (.int x) :: r) (.int x :: st) M) : Ev l K G R n u w pc (o0 :: o1 :: some (.int x) :: r) st M :=
  e_iload_n (k := 2) (i := 2) rfl hd hp rfl kk

theorem e_iload_3 {o0 o1 o2 : Option Value} {r : List (Option Value)} {x : Int32} (hd : decode K.2.1 pc = .ok (.iload_n 3, 1)) (hp : pc + 1 = pc') (kk : Ev l K G R n u w pc' (o0 :: o1 :: o2 :: some (.int x) :: r) (.int x :: st) M) : Ev l K G R n u w pc (o0 :: o1 :: o2 :: some (.int x) :: r) st M :=
  e_iload_n (k := 3) (i := 3) rfl hd hp rfl kk

theorem e_iload_4 {o0 o1 o2 o3 : Option Value} {r : List (Option Value)} {x : Int32} (hd : decode K.2.1 pc = .ok (.iload 4, 2)) (hp : pc + 2 = pc') (kk : Ev l K G R n u w pc' (o0 :: o1 :: o2 :: o3 :: some (.int x) :: r) (.int x :: st) M) : Ev l K G R n u w pc (o0 :: o1 :: o2 :: o3 :: some (.int x) :: r) st M :=
  e_iload (i := 4) hd hp rfl kk

theorem e_iload_5 {o0 o1 o2 o3 o4 : Option Value} {r : List (Option Value)} {x : Int32} (hd : decode K.2.1 pc = .ok (.iload 5, 2)) (hp : pc + 2 = pc') (kk : Ev l K G R n u w pc' (o0 :: o1 :: o2 :: o3 :: o4 :: some (.int x) :: r) (.int x :: st) M) : Ev l K G R n u w pc (o0 :: o1 :: o2 :: o3 :: o4 :: some (.int x) :: r) st M :=
  e_iload (i := 5) hd hp rfl kk

theorem e_iload_6 {o0 o1 o2 o3 o4 o5 : Option Value} {r : List (Option Value)} {x : Int32} (hd : decode K.2.1 pc = .ok (.iload 6, 2)) (hp : pc + 2 = pc') (kk : Ev l K G R n u w pc' (o0 :: o1 :: o2 :: o3 :: o4 :: o5 :: some (.int x) :: r) (.int x :: st) M) : Ev l K G R n u w pc (o0 :: o1 :: o2 :: o3 :: o4 :: o5 :: some (.int x) :: r) st M :=
  e_iload (i := 6) hd hp rfl kk

theorem e_iload_7 {o0 o1 o2 o3 o4 o5 o6 : Option Value} {r : List (Option Value)} {x : Int32} (hd : decode K.2.1 pc = .ok (.iload 7, 2)) (hp : pc + 2 = pc') (kk : Ev l K G R n u w pc' (o0 :: o1 :: o2 :: o3 :: o4 :: o5 :: o6 :: some (.int x) :: r) (.int x :: st) M) : Ev l K G R n u w pc (o0 :: o1 :: o2 :: o3 :: o4 :: o5 :: o6 :: some (.int x) :: r) st M :=
  e_iload (i := 7) hd hp rfl kk

theorem e_iload_8 {o0 o1 o2 o3 o4 o5 o6 o7 : Option Value} {r : List (Option Value)} {x : Int32} (hd : decode K.2.1 pc = .ok (.iload 8, 2)) (hp : pc + 2 = pc') (kk : Ev l K G R n u w pc' (o0 :: o1 :: o2 :: o3 :: o4 :: o5 :: o6 :: o7 :: some (.int x) :: r) (.int x :: st) M) : Ev l K G R n u w pc (o0 :: o1 :: o2 :: o3 :: o4 :: o5 :: o6 :: o7 :: some (.int x) :: r) st M :=
  e_iload (i := 8) hd hp rfl kk

theorem e_iload_9 {o0 o1 o2 o3 o4 o5 o6 o7 o8 : Option Value} {r : List (Option Value)} {x : Int32} (hd : decode K.2.1 pc = .ok (.iload 9, 2)) (hp : pc + 2 = pc') (kk : Ev l K G R n u w pc' (o0 :: o1 :: o2 :: o3 :: o4 :: o5 :: o6 :: o7 :: o8 :: some (.int x) :: r) (.int x :: st) M) : Ev l K G R n u w pc (o0 :: o1 :: o2 :: o3 :: o4 :: o5 :: o6 :: o7 :: o8 :: some (.int x) :: r) st M :=
  e_iload (i := 9) hd hp rfl kk

theorem e_iload_10 {o0 o1 o2 o3 o4 o5 o6 o7 o8 o9 : Option Value} {r : List (Option Value)} {x : Int32} (hd : decode K.2.1 pc = .ok (.iload 10, 2)) (hp : pc + 2 = pc') (kk : Ev l K G R n u w pc' (o0 :: o1 :: o2 :: o3 :: o4 :: o5 :: o6 :: o7 :: o8 :: o9 :: some (.int x) :: r) (.int x :: st) M) : Ev l K G R n u w pc (o0 :: o1 :: o2 :: o3 :: o4 :: o5 :: o6 :: o7 :: o8 :: o9 :: some (.int x) :: r) st M :=
  e_iload (i := 10) hd hp rfl kk

theorem e_iload_11 {o0 o1 o2 o3 o4 o5 o6 o7 o8 o9 o10 : Option Value} {r : List (Option Value)} {x : Int32} (hd : decode K.2.1 pc = .ok (.iload 11, 2)) (hp : pc + 2 = pc') (kk : Ev l K G R n u w pc' (o0 :: o1 :: o2 :: o3 :: o4 :: o5 :: o6 :: o7 :: o8 :: o9 :: o10 :: some (.int x) :: r) (.int x :: st) M) : Ev l K G R n u w pc (o0 :: o1 :: o2 :: o3 :: o4 :: o5 :: o6 :: o7 :: o8 :: o9 :: o10 :: some (.int x) :: r) st M :=
  e_iload (i := 11) hd hp rfl kk

theorem e_aload_n {i : Nat} {x : Nat} {k : Fin 4} (hi : (k : Nat) = i) (hd : decode K.2.1 pc = .ok (.aload_n k, 1)) (hp : pc + 1 = pc') (h : lo[i]? = some (some (.ref x))) (kk : Ev l K G R n u w pc' lo (.ref x :: st) M) : Ev l K G R n u w pc lo st M := by
  subst hp
  exact fun p e s m args below meth c D cy L A H locs ls X hl hP hS => lv_aload_n X.1 X.2.1 hd hi (pm_get hl h) (kk p e s m args below meth c D cy L A H locs ls X hl hP hS)

theorem e_aload {i : Nat} {x : Nat} (hd : decode K.2.1 pc = .ok (.aload i, 2)) (hp : pc + 2 = pc') (h : lo[i]? = some (some (.ref x))) (kk : Ev l K G R n u w pc' lo (.ref x :: st) M) : Ev l K G R n u w pc lo st M := by
  subst hp
  exact fun p e s m args below meth c D cy L A H locs ls X hl hP hS => lv_aload X.1 X.2.1 hd (pm_get hl h) (kk p e s m args below meth c D cy L A H locs ls X hl hP hS)

theorem e_aload_0 {r : List (Option Value)} {x : Nat} (hd : decode K.2.1 pc = .ok (.aload_n 0, 1)) (hp : pc + 1 = pc') (kk : Ev l K G R n u w pc' (some (.ref x) :: r) (.ref x :: st) M) : Ev l K G R n u w pc (some (.ref x) :: r) st M :=
  e_aload_n (k := 0) (i := 0) rfl hd hp rfl kk

theorem e_aload_1 {o0 : Option Value} {r : List (Option Value)} {x : Nat} (hd : decode K.2.1 pc = .ok (.aload_n 1, 1)) (hp : pc + 1 = pc') (kk : Ev l K G R n u w pc' (o0 :: some (.ref x) :: r) (.ref x :: st) M) : Ev l K G R n u w pc (o0 :: some (.ref x) :: r) st M :=
  e_aload_n (k := 1) (i := 1) rfl hd hp rfl kk

theorem e_aload_2 {o0 o1 : Option Value} {r : List (Option Value)} {x : Nat} (hd : decode K.2.1 pc = .ok (.aload_n 2, 1)) (hp : pc + 1 = pc') (kk : Ev l K G R n u w pc' (o0 :: o1 :: some (.ref x) :: r) (.ref x :: st) M) : Ev l K G R n u w pc (o0 :: o1 :: some (.ref x) :: r) st M :=
  e_aload_n (k := 2) (i := 2) rfl hd hp rfl kk

theorem e_aload_3 {o0 o1 o2 : Option Value} {r : List (Option Value)} {x : Nat} (hd : decode K.2.1 pc = .ok (.aload_n 3, 1)) (hp : pc + 1 = pc') (kk : Ev l K G R n u w pc' (o0 :: o1 :: o2 :: some (.ref x) :: r) (.ref x :: st) M) : Ev l K G R n u w pc (o0 :: o1 :: o2 :: some (.ref x) :: r) st M :=
  e_aload_n (k := 3) (i := 3) rfl hd hp rfl kk

theorem e_aload_4 {o0 o1 o2 o3 : Option Value} {r : List (Option Value)} {x : Nat} (hd : decode K.2.1 pc = .ok (.aload 4, 2)) (hp : pc + 2 = pc') (kk : Ev l K G R n u w pc' (o0 :: o1 :: o2 :: o3 :: some (.ref x) :: r) (.ref x :: st) M) : Ev l K G R n u w pc (o0 :: o1 :: o2 :: o3 :: some (.ref x) :: r) st M :=
  e_aload (i := 4) hd hp rfl kk

theorem e_aload_5 {o0 o1 o2 o3 o4 : Option Value} {r : List (Option Value)} {x : Nat} (hd : decode K.2.1 pc = .ok (.aload 5, 2)) (hp : pc + 2 = pc') (kk : Ev l K G R n u w pc' (o0 :: o1 :: o2 :: o3 :: o4 :: some (.ref x) :: r) (.ref x :: st) M) : Ev l K G R n u w pc (o0 :: o1 :: o2 :: o3 :: o4 :: some (.ref x) :: r) st M :=
  e_aload (i := 5) hd hp rfl kk

theorem e_aload_6 {o0 o1 o2 o3 o4 o5 : Option Value} {r : List (Option Value)} {x : Nat} (hd : decode K.2.1 pc = .ok (.aload 6, 2)) (hp : pc + 2 = pc') (kk : Ev l K G R n u w pc' (o0 :: o1 :: o2 :: o3 :: o4 :: o5 :: some (.ref x) :: r) (.ref x :: st) M) : Ev l K G R n u w pc (o0 :: o1 :: o2 :: o3 :: o4 :: o5 :: some (.ref x) :: r) st M :=
  e_aload (i := 6) hd hp rfl kk

theorem e_aload_7 {o0 o1 o2 o3 o4 o5 o6 : Option Value} {r : List (Option Value)} {x : Nat} (hd : decode K.2.1 pc = .ok (.aload 7, 2)) (hp : pc + 2 = pc') (kk : Ev l K G R n u w pc' (o0 :: o1 :: o2 :: o3 :: o4 :: o5 :: o6 :: some (.ref x) :: r) (.ref x :: st) M) : Ev l K G R n u w pc (o0 :: o1 :: o2 :: o3 :: o4 :: o5 :: o6 :: some (.ref x) :: r) st M :=
  e_aload (i := 7) hd hp rfl kk

theorem e_aload_8 {o0 o1 o2 o3 o4 o5 o6 o7 : Option Value} {r : List (Option Value)} {x : Nat} (hd : decode K.2.1 pc = .ok (.aload 8, 2)) (hp : pc + 2 = pc') (kk : Ev l K G R n u w pc' (o0 :: o1 :: o2 :: o3 :: o4 :: o5 :: o6 :: o7 :: some (.ref x) :: r) (.ref x :: st) M) : Ev l K G R n u w pc (o0 :: o1 :: o2 :: o3 :: o4 :: o5 :: o6 :: o7 :: some (.ref x) :: r) st M :=
  e_aload (i := 8) hd hp rfl kk

theorem e_aload_9 {o0 o1 o2 o3 o4 o5 o6 o7 o8 : Option Value} {r : List (Option Value)} {x : Nat} (hd : decode K.2.1 pc = .ok (.aload 9, 2)) (hp : pc + 2 = pc') (kk : Ev l K G R n u w pc' (o0 :: o1 :: o2 :: o3 :: o4 :: o5 :: o6 :: o7 :: o8 :: some (.ref x) :: r) (.ref x :: st) M) : Ev l K G R n u w pc (o0 :: o1 :: o2 :: o3 :: o4 :: o5 :: o6 :: o7 :: o8 :: some (.ref x) :: r) st M :=
  e_aload (i := 9) hd hp rfl kk

theorem e_aload_10 {o0 o1 o2 o3 o4 o5 o6 o7 o8 o9 : Option Value} {r : List (Option Value)} {x : Nat} (hd : decode K.2.1 pc = .ok (.aload 10, 2)) (hp : pc + 2 = pc') (kk : Ev l K G R n u w pc' (o0 :: o1 :: o2 :: o3 :: o4 :: o5 :: o6 :: o7 :: o8 :: o9 :: some (.ref x) :: r) (.ref x :: st) M) : Ev l K G R n u w pc (o0 :: o1 :: o2 :: o3 :: o4 :: o5 :: o6 :: o7 :: o8 :: o9 :: some (.ref x) :: r) st M :=
  e_aload (i := 10) hd hp rfl kk

theorem e_aload_11 {o0 o1 o2 o3 o4 o5 o6 o7 o8 o9 o10 : Option Value} {r : List (Option Value)} {x : Nat} (hd : decode K.2.1 pc = .ok (.aload 11, 2)) (hp : pc + 2 = pc') (kk : Ev l K G R n u w pc' (o0 :: o1 :: o2 :: o3 :: o4 :: o5 :: o6 :: o7 :: o8 :: o9 :: o10 :: some (.ref x) :: r) (.ref x :: st) M) : Ev l K G R n u w pc (o0 :: o1 :: o2 :: o3 :: o4 :: o5 :: o6 :: o7 :: o8 :: o9 :: o10 :: some (.ref x) :: r) st M :=
  e_aload (i := 11) hd hp rfl kk

theorem e_fload_n {i : Nat} {x : UInt32} {k : Fin 4} (hi : (k : Nat) = i) (hd : decode K.2.1 pc = .ok (.fload_n k, 1)) (hp : pc + 1 = pc') (h : lo[i]? = some (some (.float x))) (kk : Ev l K G R n u w pc' lo (.float x :: st) M) : Ev l K G R n u w pc lo st M := by
  subst hp
  exact fun p e s m args below meth c D cy L A H locs ls X hl hP hS => lv_fload_n X.1 X.2.1 hd hi (pm_get hl h) (kk p e s m args below meth c D cy L A H locs ls X hl hP hS)

theorem e_fload {i : Nat} {x : UInt32} (hd : decode K.2.1 pc = .ok (.fload i, 2)) (hp : pc + 2 = pc') (h : lo[i]? = some (some (.float x))) (kk : Ev l K G R n u w pc' lo (.float x :: st) M) : Ev l K G R n u w pc lo st M := by
  subst hp
  exact fun p e s m args below meth c D cy L A H locs ls X hl hP hS => lv_fload X.1 X.2.1 hd (pm_get hl h) (kk p e s m args below meth c D cy L A H locs ls X hl hP hS)

theorem e_fload_3 {o0 o1 o2 : Option Value} {r : List (Option Value)} {x : UInt32} (hd : decode K.2.1 pc = .ok (.fload_n 3, 1)) (hp : pc + 1 = pc') (kk : Ev l K G R n u w pc' (o0 :: o1 :: o2 :: some (.float x) :: r) (.float x :: st) M) : Ev l K G R n u w pc (o0 :: o1 :: o2 :: some (.float x) :: r) st M :=
  e_fload_n (k := 3) (i := 3) rfl hd hp rfl kk

theorem e_dload_n {i : Nat} {x : UInt64} {k : Fin 4} (hi : (k : Nat) = i) (hd : decode K.2.1 pc = .ok (.dload_n k, 1)) (hp : pc + 1 = pc') (h : lo[i]? = some (some (.double x))) (kk : Ev l K G R n u w pc' lo (.double x :: st) M) : Ev l K G R n u w pc lo st M := by
  subst hp
  exact fun p e s m args below meth c D cy L A H locs ls X hl hP hS => lv_dload_n X.1 X.2.1 hd hi (pm_get hl h) (kk p e s m args below meth c D cy L A H locs ls X hl hP hS)

theorem e_dload {i : Nat} {x : UInt64} (hd : decode K.2.1 pc = .ok (.dload i, 2)) (hp : pc + 2 = pc') (h : lo[i]? = some (some (.double x))) (kk : Ev l K G R n u w pc' lo (.double x :: st) M) : Ev l K G R n u w pc lo st M := by
  subst hp
  exact fun p e s m args below meth c D cy L A H locs ls X hl hP hS => lv_dload X.1 X.2.1 hd (pm_get hl h) (kk p e s m args below meth c D cy L A H locs ls X hl hP hS)

theorem e_dload_2 {o0 o1 : Option Value} {r : List (Option Value)} {x : UInt64} (hd : decode K.2.1 pc = .ok (.dload_n 2, 1)) (hp : pc + 1 = pc') (kk : Ev l K G R n u w pc' (o0 :: o1 :: some (.double x) :: r) (.double x :: st) M) : Ev l K G R n u w pc (o0 :: o1 :: some (.double x) :: r) st M :=
  e_dload_n (k := 2) (i := 2) rfl hd hp rfl kk

theorem e_dload_3 {o0 o1 o2 : Option Value} {r : List (Option Value)} {x : UInt64} (hd : decode K.2.1 pc = .ok (.dload_n 3, 1)) (hp : pc + 1 = pc') (kk : Ev l K G R n u w pc' (o0 :: o1 :: o2 :: some (.double x) :: r) (.double x :: st) M) : Ev l K G R n u w pc (o0 :: o1 :: o2 :: some (.double x) :: r) st M :=
  e_dload_n (k := 3) (i := 3) rfl hd hp rfl kk

theorem e_dload_4 {o0 o1 o2 o3 : Option Value} {r : List (Option Value)} {x : UInt64} (hd : decode K.2.1 pc = .ok (.dload 4, 2)) (hp : pc + 2 = pc') (kk : Ev l K G R n u w pc' (o0 :: o1 :: o2 :: o3 :: some (.double x) :: r) (.double x :: st) M) : Ev l K G R n u w pc (o0 :: o1 :: o2 :: o3 :: some (.double x) :: r) st M :=
  e_dload (i := 4) hd hp rfl kk

theorem e_dload_5 {o0 o1 o2 o3 o4 : Option Value} {r : List (Option Value)} {x : UInt64} (hd : decode K.2.1 pc = .ok (.dload 5, 2)) (hp : pc + 2 = pc') (kk : Ev l K G R n u w pc' (o0 :: o1 :: o2 :: o3 :: o4 :: some (.double x) :: r) (.double x :: st) M) : Ev l K G R n u w pc (o0 :: o1 :: o2 :: o3 :: o4 :: some (.double x) :: r) st M :=
  e_dload (i := 5) hd hp rfl kk

theorem e_dload_6 {o0 o1 o2 o3 o4 o5 : Option Value} {r : List (Option Value)} {x : UInt64} (hd : decode K.2.1 pc = .ok (.dload 6, 2)) (hp : pc + 2 = pc') (kk : Ev l K G R n u w pc' (o0 :: o1 :: o2 :: o3 :: o4 :: o5 :: some (.double x) :: r) (.double x :: st) M) : Ev l K G R n u w pc (o0 :: o1 :: o2 :: o3 :: o4 :: o5 :: some (.double x) :: r) st M :=
  e_dload (i := 6) hd hp rfl kk

theorem e_dload_7 {o0 o1 o2 o3 o4 o5 o6 : Option Value} {r : List (Option Value)} {x : UInt64} (hd : decode K.2.1 pc = .ok (.dload 7, 2)) (hp : pc + 2 = pc') (kk : Ev l K G R n u w pc' (o0 :: o1 :: o2 :: o3 :: o4 :: o5 :: o6 :: some (.double x) :: r) (.double x :: st) M) : Ev l K G R n u w pc (o0 :: o1 :: o2 :: o3 :: o4 :: o5 :: o6 :: some (.double x) :: r) st M :=
  e_dload (i := 7) hd hp rfl kk

theorem e_dload_8 {o0 o1 o2 o3 o4 o5 o6 o7 : Option Value} {r : List (Option Value)} {x : UInt64} (hd : decode K.2.1 pc = .ok (.dload 8, 2)) (hp : pc + 2 = pc') (kk : Ev l K G R n u w pc' (o0 :: o1 :: o2 :: o3 :: o4 :: o5 :: o6 :: o7 :: some (.double x) :: r) (.double x :: st) M) : Ev l K G R n u w pc (o0 :: o1 :: o2 :: o3 :: o4 :: o5 :: o6 :: o7 :: some (.double x) :: r) st M :=
  e_dload (i := 8) hd hp rfl kk

theorem e_dload_9 {o0 o1 o2 o3 o4 o5 o6 o7 o8 : Option Value} {r : List (Option Value)} {x : UInt64} (hd : decode K.2.1 pc = .ok (.dload 9, 2)) (hp : pc + 2 = pc') (kk : Ev l K G R n u w pc' (o0 :: o1 :: o2 :: o3 :: o4 :: o5 :: o6 :: o7 :: o8 :: some (.double x) :: r) (.double x :: st) M) : Ev l K G R n u w pc (o0 :: o1 :: o2 :: o3 :: o4 :: o5 :: o6 :: o7 :: o8 :: some (.double x) :: r) st M :=
  e_dload (i := 9) hd hp rfl kk

theorem e_dload_10 {o0 o1 o2 o3 o4 o5 o6 o7 o8 o9 : Option Value} {r : List (Option Value)} {x : UInt64} (hd : decode K.2.1 pc = .ok (.dload 10, 2)) (hp : pc + 2 = pc') (kk : Ev l K G R n u w pc' (o0 :: o1 :: o2 :: o3 :: o4 :: o5 :: o6 :: o7 :: o8 :: o9 :: some (.double x) :: r) (.double x :: st) M) : Ev l K G R n u w pc (o0 :: o1 :: o2 :: o3 :: o4 :: o5 :: o6 :: o7 :: o8 :: o9 :: some (.double x) :: r) st M :=
  e_dload (i := 10) hd hp rfl kk

theorem e_dload_11 {o0 o1 o2 o3 o4 o5 o6 o7 o8 o9 o10 : Option Value} {r : List (Option Value)} {x : UInt64} (hd : decode K.2.1 pc = .ok (.dload 11, 2)) (hp : pc + 2 = pc') (kk : Ev l K G R n u w pc' (o0 :: o1 :: o2 :: o3 :: o4 :: o5 :: o6 :: o7 :: o8 :: o9 :: o10 :: some (.double x) :: r) (.double x :: st) M) : Ev l K G R n u w pc (o0 :: o1 :: o2 :: o3 :: o4 :: o5 :: o6 :: o7 :: o8 :: o9 :: o10 :: some (.double x) :: r) st M :=
  e_dload (i := 11) hd hp rfl kk

theorem e_istore_n {i : Nat} {x : Int32} {lo' : List (Option Value)} {k : Fin 4} (hi : (k : Nat) = i) (hd : decode K.2.1 pc = .ok (.istore_n k, 1)) (hp : pc + 1 = pc') (hn : i < K.2.2.1) (hw : ∀ k o, k + 1 = i → lo[k]? = some o → pmNW o = true) (he : lo.set i (some (.int x)) = lo') (kk : Ev l K G R n u w pc' lo' st M) : Ev l K G R n u w pc lo (.int x :: st) M := by
  subst hp
  subst he
  exact fun p e s m args below meth c D cy L A H locs ls X hl hP hS => lv_istore_n X.1 X.2.1 hd hi hl hn rfl (fun ls' hl' => kk p e s m args below meth c D cy L A H locs ls' X (pm_store (v := .int x) hl' hw) hP hS)

theorem e_istore {i : Nat} {x : Int32} {lo' : List (Option Value)} (hd : decode K.2.1 pc = .ok (.istore i, 2)) (hp : pc + 2 = pc') (hn : i < K.2.2.1) (hw : ∀ k o, k + 1 = i → lo[k]? = some o → pmNW o = true) (he : lo.set i (some (.int x)) = lo') (kk : Ev l K G R n u w pc' lo' st M) : Ev l K G R n u w pc lo (.int x :: st) M := by
  subst hp
  subst he
  exact fun p e s m args below meth c D cy L A H locs ls X hl hP hS => lv_istore X.1 X.2.1 hd hl hn rfl (fun ls' hl' => kk p e s m args below meth c D cy L A H locs ls' X (pm_store (v := .int x) hl' hw) hP hS)

theorem e_istore_0 {o0 : Option Value} {r : List (Option Value)} {x : Int32} (hd : decode K.2.1 pc = .ok (.istore_n 0, 1)) (hp : pc + 1 = pc') (hn : 0 < K.2.2.1) (kk : Ev l K G R n u w pc' (some (.int x) :: r) st M) : Ev l K G R n u w pc (o0 :: r) (.int x :: st) M :=
  e_istore_n (k := 0) (i := 0) rfl hd hp hn (fun k o e _ => absurd e (Nat.succ_ne_zero k)) rfl kk

theorem e_istore_1 {o0 o1 : Option Value} {r : List (Option Value)} {x : Int32} (hd : decode K.2.1 pc = .ok (.istore_n 1, 1)) (hp : pc + 1 = pc') (hn : 1 < K.2.2.1) (hw : pmNW o0 = true) (kk : Ev l K G R n u w pc' (o0 :: some (.int x) :: r) st M) : Ev l K G R n u w pc (o0 :: o1 :: r) (.int x :: st) M :=
  e_istore_n (k := 1) (i := 1) rfl hd hp hn (fun k o e h => by cases (show k = 0 by omega); cases h; exact hw) rfl kk

theorem e_istore_2 {o0 o1 o2 : Option Value} {r : List (Option Value)} {x : Int32} (hd : decode K.2.1 pc = .ok (.istore_n 2, 1)) (hp : pc + 1 = pc') (hn : 2 < K.2.2.1) (hw : pmNW o1 = true) (kk : Ev l K G R n u w pc' (o0 :: o1 :: some (.int x) :: r) st M) : Ev l K G R n u w pc (o0 :: o1 :: o2 :: r) (.int x :: st) M :=
  e_istore_n (k := 2) (i := 2) rfl hd hp hn (fun k o e h => by cases (show k = 1 by omega); cases h; exact hw) rfl kk

theorem e_istore_3 {o0 o1 o2 o3 : Option Value} {r : List (Option Value)} {x : Int32} (hd : decode K.2.1 pc = .ok (.istore_n 3, 1)) (hp : pc + 1 = pc') (hn : 3 < K.2.2.1) (hw : pmNW o2 = true) (kk : Ev l K G R n u w pc' (o0 :: o1 :: o2 :: some (.int x) :: r) st M) : Ev l K G R n u w pc (o0 :: o1 :: o2 :: o3 :: r) (.int x :: st) M :=
  e_istore_n (k := 3) (i := 3) rfl hd hp hn (fun k o e h => by cases (show k = 2 by omega); cases h; exact hw) rfl kk

theorem e_istore_4 {o0 o1 o2 o3 o4 : Option Value} {r : List (Option Value)} {x : Int32} (hd : decode K.2.1 pc = .ok (.istore 4, 2)) (hp : pc + 2 = pc') (hn : 4 < K.2.2.1) (hw : pmNW o3 = true) (kk : Ev l K G R n u w pc' (o0 :: o1 :: o2 :: o3 :: some (.int x) :: r) st M) : Ev l K G R n u w pc (o0 :: o1 :: o2 :: o3 :: o4 :: r) (.int x :: st) M :=
  e_istore (i := 4) hd hp hn (fun k o e h => by cases (show k = 3 by omega); cases h; exact hw) rfl kk

theorem e_istore_5 {o0 o1 o2 o3 o4 o5 : Option Value} {r : List (Option Value)} {x : Int32} (hd : decode K.2.1 pc = .ok (.istore 5, 2)) (hp : pc + 2 = pc') (hn : 5 < K.2.2.1) (hw : pmNW o4 = true) (kk : Ev l K G R n u w pc' (o0 :: o1 :: o2 :: o3 :: o4 :: some (.int x) :: r) st M) : Ev l K G R n u w pc (o0 :: o1 :: o2 :: o3 :: o4 :: o5 :: r) (.int x :: st) M :=
  e_istore (i := 5) hd hp hn (fun k o e h => by cases (show k = 4 by omega); cases h; exact hw) rfl kk

theorem e_istore_6 {o0 o1 o2 o3 o4 o5 o6 : Option Value} {r : List (Option Value)} {x : Int32} (hd : decode K.2.1 pc = .ok (.istore 6, 2)) (hp : pc + 2 = pc') (hn : 6 < K.2.2.1) (hw : pmNW o5 = true) (kk : Ev l K G R n u w pc' (o0 :: o1 :: o2 :: o3 :: o4 :: o5 :: some (.int x) :: r) st M) : Ev l K G R n u w pc (o0 :: o1 :: o2 :: o3 :: o4 :: o5 :: o6 :: r) (.int x :: st) M :=
  e_istore (i := 6) hd hp hn (fun k o e h => by cases (show k = 5 by omega); cases h; exact hw) rfl kk

theorem e_istore_7 {o0 o1 o2 o3 o4 o5 o6 o7 : Option Value} {r : List (Option Value)} {x : Int32} (hd : decode K.2.1 pc = .ok (.istore 7, 2)) (hp : pc + 2 = pc') (hn : 7 < K.2.2.1) (hw : pmNW o6 = true) (kk : Ev l K G R n u w pc' (o0 :: o1 :: o2 :: o3 :: o4 :: o5 :: o6 :: some (.int x) :: r) st M) : Ev l K G R n u w pc (o0 :: o1 :: o2 :: o3 :: o4 :: o5 :: o6 :: o7 :: r) (.int x :: st) M :=
  e_istore (i := 7) hd hp hn (fun k o e h => by cases (show k = 6 by omega); cases h; exact hw) rfl kk

theorem e_istore_8 {o0 o1 o2 o3 o4 o5 o6 o7 o8 : Option Value} {r : List (Option Value)} {x : Int32} (hd : decode K.2.1 pc = .ok (.istore 8, 2)) (hp : pc + 2 = pc') (hn : 8 < K.2.2.1) (hw : pmNW o7 = true) (kk : Ev l K G R n u w pc' (o0 :: o1 :: o2 :: o3 :: o4 :: o5 :: o6 :: o7 :: some (.int x) :: r) st M) : Ev l K G R n u w pc (o0 :: o1 :: o2 :: o3 :: o4 :: o5 :: o6 :: o7 :: o8 :: r) (.int x :: st) M :=
  e_istore (i := 8) hd hp hn (fun k o e h => by cases (show k = 7 by omega); cases h; exact hw) rfl kk

theorem e_istore_9 {o0 o1 o2 o3 o4 o5 o6 o7 o8 o9 : Option Value} {r : List (Option Value)} {x : Int32} (hd : decode K.2.1 pc = .ok (.istore 9, 2)) (hp : pc + 2 = pc') (hn : 9 < K.2.2.1) (hw : pmNW o8 = true) (kk : Ev l K G R n u w pc' (o0 :: o1 :: o2 :: o3 :: o4 :: o5 :: o6 :: o7 :: o8 :: some (.int x) :: r) st M) : Ev l K G R n u w pc (o0 :: o1 :: o2 :: o3 :: o4 :: o5 :: o6 :: o7 :: o8 :: o9 :: r) (.int x :: st) M :=
  e_istore (i := 9) hd hp hn (fun k o e h => by cases (show k = 8 by omega); cases h; exact hw) rfl kk

theorem e_istore_10 {o0 o1 o2 o3 o4 o5 o6 o7 o8 o9 o10 : Option Value} {r : List (Option Value)} {x : Int32} (hd : decode K.2.1 pc = .ok (.istore 10, 2)) (hp : pc + 2 = pc') (hn : 10 < K.2.2.1) (hw : pmNW o9 = true) (kk : Ev l K G R n u w pc' (o0 :: o1 :: o2 :: o3 :: o4 :: o5 :: o6 :: o7 :: o8 :: o9 :: some (.int x) :: r) st M) : Ev l K G R n u w pc (o0 :: o1 :: o2 :: o3 :: o4 :: o5 :: o6 :: o7 :: o8 :: o9 :: o10 :: r) (.int x :: st) M :=
  e_istore (i := 10) hd hp hn (fun k o e h => by cases (show k = 9 by omega); cases h; exact hw) rfl kk

theorem e_istore_11 {o0 o1 o2 o3 o4 o5 o6 o7 o8 o9 o10 o11 : Option Value} {r : List (Option Value)} {x : Int32} (hd : decode K.2.1 pc = .ok (.istore 11, 2)) (hp : pc + 2 = pc') (hn : 11 < K.2.2.1) (hw : pmNW o10 = true) (kk : Ev l K G R n u w pc' (o0 :: o1 :: o2 :: o3 :: o4 :: o5 :: o6 :: o7 :: o8 :: o9 :: o10 :: some (.int x) :: r) st M) : Ev l K G R n u w pc (o0 :: o1 :: o2 :: o3 :: o4 :: o5 :: o6 :: o7 :: o8 :: o9 :: o10 :: o11 :: r) (.int x :: st) M :=
  e_istore (i := 11) hd hp hn (fun k o e h => by cases (show k = 10 by omega); cases h; exact hw) rfl kk

theorem e_astore_n {i : Nat} {x : Nat} {lo' : List (Option Value)} {k : Fin 4} (hi : (k : Nat) = i) (hd : decode K.2.1 pc = .ok (.astore_n k, 1)) (hp : pc + 1 = pc') (hn : i < K.2.2.1) (hw : ∀ k o, k + 1 = i → lo[k]? = some o → pmNW o = true) (he : lo.set i (some (.ref x)) = lo') (kk : Ev l K G R n u w pc' lo' st M) : Ev l K G R n u w pc lo (.ref x :: st) M := by
  subst hp
  subst he
  exact fun p e s m args below meth c D cy L A H locs ls X hl hP hS => lv_astore_n X.1 X.2.1 hd hi hl hn rfl (fun ls' hl' => kk p e s m args below meth c D cy L A H locs ls' X (pm_store (v := .ref x) hl' hw) hP hS)

theorem e_astore {i : Nat} {x : Nat} {lo' : List (Option Value)} (hd : decode K.2.1 pc = .ok (.astore i, 2)) (hp : pc + 2 = pc') (hn : i < K.2.2.1) (hw : ∀ k o, k + 1 = i → lo[k]? = some o → pmNW o = true) (he : lo.set i (some (.ref x)) = lo') (kk : Ev l K G R n u w pc' lo' st M) : Ev l K G R n u w pc lo (.ref x :: st) M := by
  subst hp
  subst he
  exact fun p e s m args below meth c D cy L A H locs ls X hl hP hS => lv_astore X.1 X.2.1 hd hl hn rfl (fun ls' hl' => kk p e s m args below meth c D cy L A H locs ls' X (pm_store (v := .ref x) hl' hw) hP hS)

theorem e_astore_0 {o0 : Option Value} {r : List (Option Value)} {x : Nat} (hd : decode K.2.1 pc = .ok (.astore_n 0, 1)) (hp : pc + 1 = pc') (hn : 0 < K.2.2.1) (kk : Ev l K G R n u w pc' (some (.ref x) :: r) st M) : Ev l K G R n u w pc (o0 :: r) (.ref x :: st) M :=
  e_astore_n (k := 0) (i := 0) rfl hd hp hn (fun k o e _ => absurd e (Nat.succ_ne_zero k)) rfl kk

theorem e_astore_1 {o0 o1 : Option Value} {r : List (Option Value)} {x : Nat} (hd : decode K.2.1 pc = .ok (.astore_n 1, 1)) (hp : pc + 1 = pc') (hn : 1 < K.2.2.1) (hw : pmNW o0 = true) (kk : Ev l K G R n u w pc' (o0 :: some (.ref x) :: r) st M) : Ev l K G R n u w pc (o0 :: o1 :: r) (.ref x :: st) M :=
  e_astore_n (k := 1) (i := 1) rfl hd hp hn (fun k o e h => by cases (show k = 0 by omega); cases h; exact hw) rfl kk

theorem e_astore_2 {o0 o1 o2 : Option Value} {r : List (Option Value)} {x : Nat} (hd : decode K.2.1 pc = .ok (.astore_n 2, 1)) (hp : pc + 1 = pc') (hn : 2 < K.2.2.1) (hw : pmNW o1 = true) (kk : Ev l K G R n u w pc' (o0 :: o1 :: some (.ref x) :: r) st M) : Ev l K G R n u w pc (o0 :: o1 :: o2 :: r) (.ref x :: st) M :=
  e_astore_n (k := 2) (i := 2) rfl hd hp hn (fun k o e h => by cases (show k = 1 by omega); cases h; exact hw) rfl kk

theorem e_astore_3 {o0 o1 o2 o3 : Option Value} {r : List (Option Value)} {x : Nat} (hd : decode K.2.1 pc = .ok (.astore_n 3, 1)) (hp : pc + 1 = pc') (hn : 3 < K.2.2.1) (hw : pmNW o2 = true) (kk : Ev l K G R n u w pc' (o0 :: o1 :: o2 :: some (.ref x) :: r) st M) : Ev l K G R n u w pc (o0 :: o1 :: o2 :: o3 :: r) (.ref x :: st) M :=
  e_astore_n (k := 3) (i := 3) rfl hd hp hn (fun k o e h => by cases (show k = 2 by omega); cases h; exact hw) rfl kk

theorem e_astore_4 {o0 o1 o2 o3 o4 : Option Value} {r : List (Option Value)} {x : Nat} (hd : decode K.2.1 pc = .ok (.astore 4, 2)) (hp : pc + 2 = pc') (hn : 4 < K.2.2.1) (hw : pmNW o3 = true) (kk : Ev l K G R n u w pc' (o0 :: o1 :: o2 :: o3 :: some (.ref x) :: r) st M) : Ev l K G R n u w pc (o0 :: o1 :: o2 :: o3 :: o4 :: r) (.ref x :: st) M :=
  e_astore (i := 4) hd hp hn (fun k o e h => by cases (show k = 3 by omega); cases h; exact hw) rfl kk

theorem e_astore_5 {o0 o1 o2 o3 o4 o5 : Option Value} {r : List (Option Value)} {x : Nat} (hd : decode K.2.1 pc = .ok (.astore 5, 2)) (hp : pc + 2 = pc') (hn : 5 < K.2.2.1) (hw : pmNW o4 = true) (kk : Ev l K G R n u w pc' (o0 :: o1 :: o2 :: o3 :: o4 :: some (.ref x) :: r) st M) : Ev l K G R n u w pc (o0 :: o1 :: o2 :: o3 :: o4 :: o5 :: r) (.ref x :: st) M :=
  e_astore (i := 5) hd hp hn (fun k o e h => by cases (show k = 4 by omega); cases h; exact hw) rfl kk

theorem e_astore_6 {o0 o1 o2 o3 o4 o5 o6 : Option Value} {r : List (Option Value)} {x : Nat} (hd : decode K.2.1 pc = .ok (.astore 6, 2)) (hp : pc + 2 = pc') (hn : 6 < K.2.2.1) (hw : pmNW o5 = true) (kk : Ev l K G R n u w pc' (o0 :: o1 :: o2 :: o3 :: o4 :: o5 :: some (.ref x) :: r) st M) : Ev l K G R n u w pc (o0 :: o1 :: o2 :: o3 :: o4 :: o5 :: o6 :: r) (.ref x :: st) M :=
  e_astore (i := 6) hd hp hn (fun k o e h => by cases (show k = 5 by omega); cases h; exact hw) rfl kk

theorem e_astore_7 {o0 o1 o2 o3 o4 o5 o6 o7 : Option Value} {r : List (Option Value)} {x : Nat} (hd : decode K.2.1 pc = .ok (.astore 7, 2)) (hp : pc + 2 = pc') (hn : 7 < K.2.2.1) (hw : pmNW o6 = true) (kk : Ev l K G R n u w pc' (o0 :: o1 :: o2 :: o3 :: o4 :: o5 :: o6 :: some (.ref x) :: r) st M) : Ev l K G R n u w pc (o0 :: o1 :: o2 :: o3 :: o4 :: o5 :: o6 :: o7 :: r) (.ref x :: st) M :=
  e_astore (i := 7) hd hp hn (fun k o e h => by cases (show k = 6 by omega); cases h; exact hw) rfl kk

theorem e_astore_8 {o0 o1 o2 o3 o4 o5 o6 o7 o8 : Option Value} {r : List (Option Value)} {x : Nat} (hd : decode K.2.1 pc = .ok (.astore 8, 2)) (hp : pc + 2 = pc') (hn : 8 < K.2.2.1) (hw : pmNW o7 = true) (kk : Ev l K G R n u w pc' (o0 :: o1 :: o2 :: o3 :: o4 :: o5 :: o6 :: o7 :: some (.ref x) :: r) st M) : Ev l K G R n u w pc (o0 :: o1 :: o2 :: o3 :: o4 :: o5 :: o6 :: o7 :: o8 :: r) (.ref x :: st) M :=
  e_astore (i := 8) hd hp hn (fun k o e h => by cases (show k = 7 by omega); cases h; exact hw) rfl kk

theorem e_astore_9 {o0 o1 o2 o3 o4 o5 o6 o7 o8 o9 : Option Value} {r : List (Option Value)} {x : Nat} (hd : decode K.2.1 pc = .ok (.astore 9, 2)) (hp : pc + 2 = pc') (hn : 9 < K.2.2.1) (hw : pmNW o8 = true) (kk : Ev l K G R n u w pc' (o0 :: o1 :: o2 :: o3 :: o4 :: o5 :: o6 :: o7 :: o8 :: some (.ref x) :: r) st M) : Ev l K G R n u w pc (o0 :: o1 :: o2 :: o3 :: o4 :: o5 :: o6 :: o7 :: o8 :: o9 :: r) (.ref x :: st) M :=
  e_astore (i := 9) hd hp hn (fun k o e h => by cases (show k = 8 by omega); cases h; exact hw) rfl kk

theorem e_astore_10 {o0 o1 o2 o3 o4 o5 o6 o7 o8 o9 o10 : Option Value} {r : List (Option Value)} {x : Nat} (hd : decode K.2.1 pc = .ok (.astore 10, 2)) (hp : pc + 2 = pc') (hn : 10 < K.2.2.1) (hw : pmNW o9 = true) (kk : Ev l K G R n u w pc' (o0 :: o1 :: o2 :: o3 :: o4 :: o5 :: o6 :: o7 :: o8 :: o9 :: some (.ref x) :: r) st M) : Ev l K G R n u w pc (o0 :: o1 :: o2 :: o3 :: o4 :: o5 :: o6 :: o7 :: o8 :: o9 :: o10 :: r) (.ref x :: st) M :=
  e_astore (i := 10) hd hp hn (fun k o e h => by cases (show k = 9 by omega); cases h; exact hw) rfl kk

theorem e_astore_11 {o0 o1 o2 o3 o4 o5 o6 o7 o8 o9 o10 o11 : Option Value} {r : List (Option Value)} {x : Nat} (hd : decode K.2.1 pc = .ok (.astore 11, 2)) (hp : pc + 2 = pc') (hn : 11 < K.2.2.1) (hw : pmNW o10 = true) (kk : Ev l K G R n u w pc' (o0 :: o1 :: o2 :: o3 :: o4 :: o5 :: o6 :: o7 :: o8 :: o9 :: o10 :: some (.ref x) :: r) st M) : Ev l K G R n u w pc (o0 :: o1 :: o2 :: o3 :: o4 :: o5 :: o6 :: o7 :: o8 :: o9 :: o10 :: o11 :: r) (.ref x :: st) M :=
  e_astore (i := 11) hd hp hn (fun k o e h => by cases (show k = 10 by omega); cases h; exact hw) rfl kk

theorem e_fstore_n {i : Nat} {x : UInt32} {lo' : List (Option Value)} {k : Fin 4} (hi : (k : Nat) = i) (hd : decode K.2.1 pc = .ok (.fstore_n k, 1)) (hp : pc + 1 = pc') (hn : i < K.2.2.1) (hw : ∀ k o, k + 1 = i → lo[k]? = some o → pmNW o = true) (he : lo.set i (some (.float x)) = lo') (kk : Ev l K G R n u w pc' lo' st M) : Ev l K G R n u w pc lo (.float x :: st) M := by
  subst hp
  subst he
  exact fun p e s m args below meth c D cy L A H locs ls X hl hP hS => lv_fstore_n X.1 X.2.1 hd hi hl hn rfl (fun ls' hl' => kk p e s m args below meth c D cy L A H locs ls' X (pm_store (v := .float x) hl' hw) hP hS)

theorem e_fstore {i : Nat} {x : UInt32} {lo' : List (Option Value)} (hd : decode K.2.1 pc = .ok (.fstore i, 2)) (hp : pc + 2 = pc') (hn : i < K.2.2.1) (hw : ∀ k o, k + 1 = i → lo[k]? = some o → pmNW o = true) (he : lo.set i (some (.float x)) = lo') (kk : Ev l K G R n u w pc' lo' st M) : Ev l K G R n u w pc lo (.float x :: st) M := by
  subst hp
  subst he
  exact fun p e s m args below meth c D cy L A H locs ls X hl hP hS => lv_fstore X.1 X.2.1 hd hl hn rfl (fun ls' hl' => kk p e s m args below meth c D cy L A H locs ls' X (pm_store (v := .float x) hl' hw) hP hS)

theorem e_fstore_3 {o0 o1 o2 o3 : Option Value} {r : List (Option Value)} {x : UInt32} (hd : decode K.2.1 pc = .ok (.fstore_n 3, 1)) (hp : pc + 1 = pc') (hn : 3 < K.2.2.1) (hw : pmNW o2 = true) (kk : Ev l K G R n u w pc' (o0 :: o1 :: o2 :: some (.float x) :: r) st M) : Ev l K G R n u w pc (o0 :: o1 :: o2 :: o3 :: r) (.float x :: st) M :=
  e_fstore_n (k := 3) (i := 3) rfl hd hp hn (fun k o e h => by cases (show k = 2 by omega); cases h; exact hw) rfl kk

theorem e_iinc_0 {r : List (Option Value)} {x v : Int32} {z : Int} (hd : decode K.2.1 pc = .ok (.iinc 0 z, 3)) (hp : pc + 3 = pc') (hn : 0 < K.2.2.1) (hv : x + Int32.ofInt z = v) (kk : Ev l K G R n u w pc' (some (.int v) :: r) st M) : Ev l K G R n u w pc (some (.int x) :: r) st M := by
  subst hp
  refine fun p e s m args below meth c D cy L A H locs ls X hl hP hS => ?_
  obtain ⟨j, hj⟩ := List.getElem?_of_mem ((pmPr_mem L (some (.int x) :: r) 0 (0, .int x)).mpr ⟨0, .int x, rfl, rfl⟩)
  exact lv_iinc X.1 X.2.1 hd hl hj hv hn rfl (fun ls' hl' => kk p e s m args below meth c D cy L A H locs ls' X (pm_store (i := 0) (lo := (some (.int x) :: r)) (v := .int v) hl' (fun k o e _ => absurd e (Nat.succ_ne_zero k))) hP hS)

theorem e_iinc_1 {o0 : Option Value} {r : List (Option Value)} {x v : Int32} {z : Int} (hd : decode K.2.1 pc = .ok (.iinc 1 z, 3)) (hp : pc + 3 = pc') (hn : 1 < K.2.2.1) (hw : pmNW o0 = true) (hv : x + Int32.ofInt z = v) (kk : Ev l K G R n u w pc' (o0 :: some (.int v) :: r) st M) : Ev l K G R n u w pc (o0 :: some (.int x) :: r) st M := by
  subst hp
  refine fun p e s m args below meth c D cy L A H locs ls X hl hP hS => ?_
  obtain ⟨j, hj⟩ := List.getElem?_of_mem ((pmPr_mem L (o0 :: some (.int x) :: r) 0 (1, .int x)).mpr ⟨1, .int x, rfl, rfl⟩)
  exact lv_iinc X.1 X.2.1 hd hl hj hv hn rfl (fun ls' hl' => kk p e s m args below meth c D cy L A H locs ls' X (pm_store (i := 1) (lo := (o0 :: some (.int x) :: r)) (v := .int v) hl' (fun k o e h => by cases (show k = 0 by omega); cases h; exact hw)) hP hS)

theorem e_iinc_2 {o0 o1 : Option Value} {r : List (Option Value)} {x v : Int32} {z : Int} (hd : decode K.2.1 pc = .ok (.iinc 2 z, 3)) (hp : pc + 3 = pc') (hn : 2 < K.2.2.1) (hw : pmNW o1 = true) (hv : x + Int32.ofInt z = v) (kk : Ev l K G R n u w pc' (o0 :: o1 :: some (.int v) :: r) st M) : Ev l K G R n u w pc (o0 :: o1 :: some (.int x) :: r) st M := by
  subst hp
  refine fun p e s m args below meth c D cy L A H locs ls X hl hP hS => ?_
  obtain ⟨j, hj⟩ := List.getElem?_of_mem ((pmPr_mem L (o0 :: o1 :: some (.int x) :: r) 0 (2, .int x)).mpr ⟨2, .int x, rfl, rfl⟩)
  exact lv_iinc X.1 X.2.1 hd hl hj hv hn rfl (fun ls' hl' => kk p e s m args below meth c D cy L A H locs ls' X (pm_store (i := 2) (lo := (o0 :: o1 :: some (.int x) :: r)) (v := .int v) hl' (fun k o e h => by cases (show k = 1 by omega); cases h; exact hw)) hP hS)

theorem e_iinc_3 {o0 o1 o2 : Option Value} {r : List (Option Value)} {x v : Int32} {z : Int} (hd : decode K.2.1 pc = .ok (.iinc 3 z, 3)) (hp : pc + 3 = pc') (hn : 3 < K.2.2.1) (hw : pmNW o2 = true) (hv : x + Int32.ofInt z = v) (kk : Ev l K G R n u w pc' (o0 :: o1 :: o2 :: some (.int v) :: r) st M) : Ev l K G R n u w pc (o0 :: o1 :: o2 :: some (.int x) :: r) st M := by
  subst hp
  refine fun p e s m args below meth c D cy L A H locs ls X hl hP hS => ?_
  obtain ⟨j, hj⟩ := List.getElem?_of_mem ((pmPr_mem L (o0 :: o1 :: o2 :: some (.int x) :: r) 0 (3, .int x)).mpr ⟨3, .int x, rfl, rfl⟩)
  exact lv_iinc X.1 X.2.1 hd hl hj hv hn rfl (fun ls' hl' => kk p e s m args below meth c D cy L A H locs ls' X (pm_store (i := 3) (lo := (o0 :: o1 :: o2 :: some (.int x) :: r)) (v := .int v) hl' (fun k o e h => by cases (show k = 2 by omega); cases h; exact hw)) hP hS)

theorem e_iinc_4 {o0 o1 o2 o3 : Option Value} {r : List (Option Value)} {x v : Int32} {z : Int} (hd : decode K.2.1 pc = .ok (.iinc 4 z, 3)) (hp : pc + 3 = pc') (hn : 4 < K.2.2.1) (hw : pmNW o3 = true) (hv : x + Int32.ofInt z = v) (kk : Ev l K G R n u w pc' (o0 :: o1 :: o2 :: o3 :: some (.int v) :: r) st M) : Ev l K G R n u w pc (o0 :: o1 :: o2 :: o3 :: some (.int x) :: r) st M := by
  subst hp
  refine fun p e s m args below meth c D cy L A H locs ls X hl hP hS => ?_
  obtain ⟨j, hj⟩ := List.getElem?_of_mem ((pmPr_mem L (o0 :: o1 :: o2 :: o3 :: some (.int x) :: r) 0 (4, .int x)).mpr ⟨4, .int x, rfl, rfl⟩)
  exact lv_iinc X.1 X.2.1 hd hl hj hv hn rfl (fun ls' hl' => kk p e s m args below meth c D cy L A H locs ls' X (pm_store (i := 4) (lo := (o0 :: o1 :: o2 :: o3 :: some (.int x) :: r)) (v := .int v) hl' (fun k o e h => by cases (show k = 3 by omega); cases h; exact hw)) hP hS)

theorem e_iinc_5 {o0 o1 o2 o3 o4 : Option Value} {r : List (Option Value)} {x v : Int32} {z : Int} (hd : decode K.2.1 pc = .ok (.iinc 5 z, 3)) (hp : pc + 3 = pc') (hn : 5 < K.2.2.1) (hw : pmNW o4 = true) (hv : x + Int32.ofInt z = v) (kk : Ev l K G R n u w pc' (o0 :: o1 :: o2 :: o3 :: o4 :: some (.int v) :: r) st M) : Ev l K G R n u w pc (o0 :: o1 :: o2 :: o3 :: o4 :: some (.int x) :: r) st M := by
  subst hp
  refine fun p e s m args below meth c D cy L A H locs ls X hl hP hS => ?_
  obtain ⟨j, hj⟩ := List.getElem?_of_mem ((pmPr_mem L (o0 :: o1 :: o2 :: o3 :: o4 :: some (.int x) :: r) 0 (5, .int x)).mpr ⟨5, .int x, rfl, rfl⟩)
  exact lv_iinc X.1 X.2.1 hd hl hj hv hn rfl (fun ls' hl' => kk p e s m args below meth c D cy L A H locs ls' X (pm_store (i := 5) (lo := (o0 :: o1 :: o2 :: o3 :: o4 :: some (.int x) :: r)) (v := .int v) hl' (fun k o e h => by cases (show k = 4 by omega); cases h; exact hw)) hP hS)

theorem e_iinc_6 {o0 o1 o2 o3 o4 o5 : Option Value} {r : List (Option Value)} {x v : Int32} {z : Int} (hd : decode K.2.1 pc = .ok (.iinc 6 z, 3)) (hp : pc + 3 = pc') (hn : 6 < K.2.2.1) (hw : pmNW o5 = true) (hv : x + Int32.ofInt z = v) (kk : Ev l K G R n u w pc' (o0 :: o1 :: o2 :: o3 :: o4 :: o5 :: some (.int v) :: r) st M) : Ev l K G R n u w pc (o0 :: o1 :: o2 :: o3 :: o4 :: o5 :: some (.int x) :: r) st M := by
  subst hp
  refine fun p e s m args below meth c D cy L A H locs ls X hl hP hS => ?_
  obtain ⟨j, hj⟩ := List.getElem?_of_mem ((pmPr_mem L (o0 :: o1 :: o2 :: o3 :: o4 :: o5 :: some (.int x) :: r) 0 (6, .int x)).mpr ⟨6, .int x, rfl, rfl⟩)
  exact lv_iinc X.1 X.2.1 hd hl hj hv hn rfl (fun ls' hl' => kk p e s m args below meth c D cy L A H locs ls' X (pm_store (i := 6) (lo := (o0 :: o1 :: o2 :: o3 :: o4 :: o5 :: some (.int x) :: r)) (v := .int v) hl' (fun k o e h => by cases (show k = 5 by omega); cases h; exact hw)) hP hS)

theorem e_iinc_7 {o0 o1 o2 o3 o4 o5 o6 : Option Value} {r : List (Option Value)} {x v : Int32} {z : Int} (hd : decode K.2.1 pc = .ok (.iinc 7 z, 3)) (hp : pc + 3 = pc') (hn : 7 < K.2.2.1) (hw : pmNW o6 = true) (hv : x + Int32.ofInt z = v) (kk : Ev l K G R n u w pc' (o0 :: o1 :: o2 :: o3 :: o4 :: o5 :: o6 :: some (.int v) :: r) st M) : Ev l K G R n u w pc (o0 :: o1 :: o2 :: o3 :: o4 :: o5 :: o6 :: some (.int x) :: r) st M := by
  subst hp
  refine fun p e s m args below meth c D cy L A H locs ls X hl hP hS => ?_
  obtain ⟨j, hj⟩ := List.getElem?_of_mem ((pmPr_mem L (o0 :: o1 :: o2 :: o3 :: o4 :: o5 :: o6 :: some (.int x) :: r) 0 (7, .int x)).mpr ⟨7, .int x, rfl, rfl⟩)
  exact lv_iinc X.1 X.2.1 hd hl hj hv hn rfl (fun ls' hl' => kk p e s m args below meth c D cy L A H locs ls' X (pm_store (i := 7) (lo := (o0 :: o1 :: o2 :: o3 :: o4 :: o5 :: o6 :: some (.int x) :: r)) (v := .int v) hl' (fun k o e h => by cases (show k = 6 by omega); cases h; exact hw)) hP hS)

theorem e_iinc_8 {o0 o1 o2 o3 o4 o5 o6 o7 : Option Value} {r : List (Option Value)} {x v : Int32} {z : Int} (hd : decode K.2.1 pc = .ok (.iinc 8 z, 3)) (hp : pc + 3 = pc') (hn : 8 < K.2.2.1) (hw : pmNW o7 = true) (hv : x + Int32.ofInt z = v) (kk : Ev l K G R n u w pc' (o0 :: o1 :: o2 :: o3 :: o4 :: o5 :: o6 :: o7 :: some (.int v) :: r) st M) : Ev l K G R n u w pc (o0 :: o1 :: o2 :: o3 :: o4 :: o5 :: o6 :: o7 :: some (.int x) :: r) st M := by
  subst hp
  refine fun p e s m args below meth c D cy L A H locs ls X hl hP hS => ?_
  obtain ⟨j, hj⟩ := List.getElem?_of_mem ((pmPr_mem L (o0 :: o1 :: o2 :: o3 :: o4 :: o5 :: o6 :: o7 :: some (.int x) :: r) 0 (8, .int x)).mpr ⟨8, .int x, rfl, rfl⟩)
  exact lv_iinc X.1 X.2.1 hd hl hj hv hn rfl (fun ls' hl' => kk p e s m args below meth c D cy L A H locs ls' X (pm_store (i := 8) (lo := (o0 :: o1 :: o2 :: o3 :: o4 :: o5 :: o6 :: o7 :: some (.int x) :: r)) (v := .int v) hl' (fun k o e h => by cases (show k = 7 by omega); cases h; exact hw)) hP hS)

theorem e_iinc_9 {o0 o1 o2 o3 o4 o5 o6 o7 o8 : Option Value} {r : List (Option Value)} {x v : Int32} {z : Int} (hd : decode K.2.1 pc = .ok (.iinc 9 z, 3)) (hp : pc + 3 = pc') (hn : 9 < K.2.2.1) (hw : pmNW o8 = true) (hv : x + Int32.ofInt z = v) (kk : Ev l K G R n u w pc' (o0 :: o1 :: o2 :: o3 :: o4 :: o5 :: o6 :: o7 :: o8 :: some (.int v) :: r) st M) : Ev l K G R n u w pc (o0 :: o1 :: o2 :: o3 :: o4 :: o5 :: o6 :: o7 :: o8 :: some (.int x) :: r) st M := by
  subst hp
  refine fun p e s m args below meth c D cy L A H locs ls X hl hP hS => ?_
  obtain ⟨j, hj⟩ := List.getElem?_of_mem ((pmPr_mem L (o0 :: o1 :: o2 :: o3 :: o4 :: o5 :: o6 :: o7 :: o8 :: some (.int x) :: r) 0 (9, .int x)).mpr ⟨9, .int x, rfl, rfl⟩)
  exact lv_iinc X.1 X.2.1 hd hl hj hv hn rfl (fun ls' hl' => kk p e s m args below meth c D cy L A H locs ls' X (pm_store (i := 9) (lo := (o0 :: o1 :: o2 :: o3 :: o4 :: o5 :: o6 :: o7 :: o8 :: some (.int x) :: r)) (v := .int v) hl' (fun k o e h => by cases (show k = 8 by omega); cases h; exact hw)) hP hS)

theorem e_iinc_10 {o0 o1 o2 o3 o4 o5 o6 o7 o8 o9 : Option Value} {r : List (Option Value)} {x v : Int32} {z : Int} (hd : decode K.2.1 pc = .ok (.iinc 10 z, 3)) (hp : pc + 3 = pc') (hn : 10 < K.2.2.1) (hw : pmNW o9 = true) (hv : x + Int32.ofInt z = v) (kk : Ev l K G R n u w pc' (o0 :: o1 :: o2 :: o3 :: o4 :: o5 :: o6 :: o7 :: o8 :: o9 :: some (.int v) :: r) st M) : Ev l K G R n u w pc (o0 :: o1 :: o2 :: o3 :: o4 :: o5 :: o6 :: o7 :: o8 :: o9 :: some (.int x) :: r) st M := by
  subst hp
  refine fun p e s m args below meth c D cy L A H locs ls X hl hP hS => ?_
  obtain ⟨j, hj⟩ := List.getElem?_of_mem ((pmPr_mem L (o0 :: o1 :: o2 :: o3 :: o4 :: o5 :: o6 :: o7 :: o8 :: o9 :: some (.int x) :: r) 0 (10, .int x)).mpr ⟨10, .int x, rfl, rfl⟩)
  exact lv_iinc X.1 X.2.1 hd hl hj hv hn rfl (fun ls' hl' => kk p e s m args below meth c D cy L A H locs ls' X (pm_store (i := 10) (lo := (o0 :: o1 :: o2 :: o3 :: o4 :: o5 :: o6 :: o7 :: o8 :: o9 :: some (.int x) :: r)) (v := .int v) hl' (fun k o e h => by cases (show k = 9 by omega); cases h; exact hw)) hP hS)

theorem e_iinc_11 {o0 o1 o2 o3 o4 o5 o6 o7 o8 o9 o10 : Option Value} {r : List (Option Value)} {x v : Int32} {z : Int} (hd : decode K.2.1 pc = .ok (.iinc 11 z, 3)) (hp : pc + 3 = pc') (hn : 11 < K.2.2.1) (hw : pmNW o10 = true) (hv : x + Int32.ofInt z = v) (kk : Ev l K G R n u w pc' (o0 :: o1 :: o2 :: o3 :: o4 :: o5 :: o6 :: o7 :: o8 :: o9 :: o10 :: some (.int v) :: r) st M) : Ev l K G R n u w pc (o0 :: o1 :: o2 :: o3 :: o4 :: o5 :: o6 :: o7 :: o8 :: o9 :: o10 :: some (.int x) :: r) st M := by
  subst hp
  refine fun p e s m args below meth c D cy L A H locs ls X hl hP hS => ?_
  obtain ⟨j, hj⟩ := List.getElem?_of_mem ((pmPr_mem L (o0 :: o1 :: o2 :: o3 :: o4 :: o5 :: o6 :: o7 :: o8 :: o9 :: o10 :: some (.int x) :: r) 0 (11, .int x)).mpr ⟨11, .int x, rfl, rfl⟩)
  exact lv_iinc X.1 X.2.1 hd hl hj hv hn rfl (fun ls' hl' => kk p e s m args below meth c D cy L A H locs ls' X (pm_store (i := 11) (lo := (o0 :: o1 :: o2 :: o3 :: o4 :: o5 :: o6 :: o7 :: o8 :: o9 :: o10 :: some (.int x) :: r)) (v := .int v) hl' (fun k o e h => by cases (show k = 10 by omega); cases h; exact hw)) hP hS)

theorem e_dstore_4 {o0 o1 o2 o3 o4 o5 : Option Value} {r : List (Option Value)} {x : UInt64} (hd : decode K.2.1 pc = .ok (.dstore 4, 2)) (hp : pc + 2 = pc') (hn : 4 + 1 < K.2.2.1) (hw : pmNW o3 = true) (kk : Ev l K G R n u w pc' (o0 :: o1 :: o2 :: o3 :: some (.double x) :: none :: r) st M) : Ev l K G R n u w pc (o0 :: o1 :: o2 :: o3 :: o4 :: o5 :: r) (.double x :: st) M := by
  subst hp
  exact fun p e s m args below meth c D cy L A H locs ls X hl hP hS => lv_dstore X.1 X.2.1 hd hl hn rfl (fun ls' hl' => kk p e s m args below meth c D cy L A H locs ls' X (pm_store2 (i := 4) (lo := (o0 :: o1 :: o2 :: o3 :: o4 :: o5 :: r)) (v := .double x) hl' (fun k o e h => by cases (show k = 3 by omega); cases h; exact hw)) hP hS)

theorem e_dstore_5 {o0 o1 o2 o3 o4 o5 o6 : Option Value} {r : List (Option Value)} {x : UInt64} (hd : decode K.2.1 pc = .ok (.dstore 5, 2)) (hp : pc + 2 = pc') (hn : 5 + 1 < K.2.2.1) (hw : pmNW o4 = true) (kk : Ev l K G R n u w pc' (o0 :: o1 :: o2 :: o3 :: o4 :: some (.double x) :: none :: r) st M) : Ev l K G R n u w pc (o0 :: o1 :: o2 :: o3 :: o4 :: o5 :: o6 :: r) (.double x :: st) M := by
  subst hp
  exact fun p e s m args below meth c D cy L A H locs ls X hl hP hS => lv_dstore X.1 X.2.1 hd hl hn rfl (fun ls' hl' => kk p e s m args below meth c D cy L A H locs ls' X (pm_store2 (i := 5) (lo := (o0 :: o1 :: o2 :: o3 :: o4 :: o5 :: o6 :: r)) (v := .double x) hl' (fun k o e h => by cases (show k = 4 by omega); cases h; exact hw)) hP hS)

theorem e_dstore_6 {o0 o1 o2 o3 o4 o5 o6 o7 : Option Value} {r : List (Option Value)} {x : UInt64} (hd : decode K.2.1 pc = .ok (.dstore 6, 2)) (hp : pc + 2 = pc') (hn : 6 + 1 < K.2.2.1) (hw : pmNW o5 = true) (kk : Ev l K G R n u w pc' (o0 :: o1 :: o2 :: o3 :: o4 :: o5 :: some (.double x) :: none :: r) st M) : Ev l K G R n u w pc (o0 :: o1 :: o2 :: o3 :: o4 :: o5 :: o6 :: o7 :: r) (.double x :: st) M := by
  subst hp
  exact fun p e s m args below meth c D cy L A H locs ls X hl hP hS => lv_dstore X.1 X.2.1 hd hl hn rfl (fun ls' hl' => kk p e s m args below meth c D cy L A H locs ls' X (pm_store2 (i := 6) (lo := (o0 :: o1 :: o2 :: o3 :: o4 :: o5 :: o6 :: o7 :: r)) (v := .double x) hl' (fun k o e h => by cases (show k = 5 by omega); cases h; exact hw)) hP hS)

theorem e_dstore_7 {o0 o1 o2 o3 o4 o5 o6 o7 o8 : Option Value} {r : List (Option Value)} {x : UInt64} (hd : decode K.2.1 pc = .ok (.dstore 7, 2)) (hp : pc + 2 = pc') (hn : 7 + 1 < K.2.2.1) (hw : pmNW o6 = true) (kk : Ev l K G R n u w pc' (o0 :: o1 :: o2 :: o3 :: o4 :: o5 :: o6 :: some (.double x) :: none :: r) st M) : Ev l K G R n u w pc (o0 :: o1 :: o2 :: o3 :: o4 :: o5 :: o6 :: o7 :: o8 :: r) (.double x :: st) M := by
  subst hp
  exact fun p e s m args below meth c D cy L A H locs ls X hl hP hS => lv_dstore X.1 X.2.1 hd hl hn rfl (fun ls' hl' => kk p e s m args below meth c D cy L A H locs ls' X (pm_store2 (i := 7) (lo := (o0 :: o1 :: o2 :: o3 :: o4 :: o5 :: o6 :: o7 :: o8 :: r)) (v := .double x) hl' (fun k o e h => by cases (show k = 6 by omega); cases h; exact hw)) hP hS)

theorem e_dstore_8 {o0 o1 o2 o3 o4 o5 o6 o7 o8 o9 : Option Value} {r : List (Option Value)} {x : UInt64} (hd : decode K.2.1 pc = .ok (.dstore 8, 2)) (hp : pc + 2 = pc') (hn : 8 + 1 < K.2.2.1) (hw : pmNW o7 = true) (kk : Ev l K G R n u w pc' (o0 :: o1 :: o2 :: o3 :: o4 :: o5 :: o6 :: o7 :: some (.double x) :: none :: r) st M) : Ev l K G R n u w pc (o0 :: o1 :: o2 :: o3 :: o4 :: o5 :: o6 :: o7 :: o8 :: o9 :: r) (.double x :: st) M := by
  subst hp
  exact fun p e s m args below meth c D cy L A H locs ls X hl hP hS => lv_dstore X.1 X.2.1 hd hl hn rfl (fun ls' hl' => kk p e s m args below meth c D cy L A H locs ls' X (pm_store2 (i := 8) (lo := (o0 :: o1 :: o2 :: o3 :: o4 :: o5 :: o6 :: o7 :: o8 :: o9 :: r)) (v := .double x) hl' (fun k o e h => by cases (show k = 7 by omega); cases h; exact hw)) hP hS)

theorem e_dstore_9 {o0 o1 o2 o3 o4 o5 o6 o7 o8 o9 o10 : Option Value} {r : List (Option Value)} {x : UInt64} (hd : decode K.2.1 pc = .ok (.dstore 9, 2)) (hp : pc + 2 = pc') (hn : 9 + 1 < K.2.2.1) (hw : pmNW o8 = true) (kk : Ev l K G R n u w pc' (o0 :: o1 :: o2 :: o3 :: o4 :: o5 :: o6 :: o7 :: o8 :: some (.double x) :: none :: r) st M) : Ev l K G R n u w pc (o0 :: o1 :: o2 :: o3 :: o4 :: o5 :: o6 :: o7 :: o8 :: o9 :: o10 :: r) (.double x :: st) M := by
  subst hp
  exact fun p e s m args below meth c D cy L A H locs ls X hl hP hS => lv_dstore X.1 X.2.1 hd hl hn rfl (fun ls' hl' => kk p e s m args below meth c D cy L A H locs ls' X (pm_store2 (i := 9) (lo := (o0 :: o1 :: o2 :: o3 :: o4 :: o5 :: o6 :: o7 :: o8 :: o9 :: o10 :: r)) (v := .double x) hl' (fun k o e h => by cases (show k = 8 by omega); cases h; exact hw)) hP hS)

theorem e_dstore_10 {o0 o1 o2 o3 o4 o5 o6 o7 o8 o9 o10 o11 : Option Value} {r : List (Option Value)} {x : UInt64} (hd : decode K.2.1 pc = .ok (.dstore 10, 2)) (hp : pc + 2 = pc') (hn : 10 + 1 < K.2.2.1) (hw : pmNW o9 = true) (kk : Ev l K G R n u w pc' (o0 :: o1 :: o2 :: o3 :: o4 :: o5 :: o6 :: o7 :: o8 :: o9 :: some (.double x) :: none :: r) st M) : Ev l K G R n u w pc (o0 :: o1 :: o2 :: o3 :: o4 :: o5 :: o6 :: o7 :: o8 :: o9 :: o10 :: o11 :: r) (.double x :: st) M := by
  subst hp
  exact fun p e s m args below meth c D cy L A H locs ls X hl hP hS => lv_dstore X.1 X.2.1 hd hl hn rfl (fun ls' hl' => kk p e s m args below meth c D cy L A H locs ls' X (pm_store2 (i := 10) (lo := (o0 :: o1 :: o2 :: o3 :: o4 :: o5 :: o6 :: o7 :: o8 :: o9 :: o10 :: o11 :: r)) (v := .double x) hl' (fun k o e h => by cases (show k = 9 by omega); cases h; exact hw)) hP hS)

theorem e_dstore_11 {o0 o1 o2 o3 o4 o5 o6 o7 o8 o9 o10 o11 o12 : Option Value} {r : List (Option Value)} {x : UInt64} (hd : decode K.2.1 pc = .ok (.dstore 11, 2)) (hp : pc + 2 = pc') (hn : 11 + 1 < K.2.2.1) (hw : pmNW o10 = true) (kk : Ev l K G R n u w pc' (o0 :: o1 :: o2 :: o3 :: o4 :: o5 :: o6 :: o7 :: o8 :: o9 :: o10 :: some (.double x) :: none :: r) st M) : Ev l K G R n u w pc (o0 :: o1 :: o2 :: o3 :: o4 :: o5 :: o6 :: o7 :: o8 :: o9 :: o10 :: o11 :: o12 :: r) (.double x :: st) M := by
  subst hp
  exact fun p e s m args below meth c D cy L A H locs ls X hl hP hS => lv_dstore X.1 X.2.1 hd hl hn rfl (fun ls' hl' => kk p e s m args below meth c D cy L A H locs ls' X (pm_store2 (i := 11) (lo := (o0 :: o1 :: o2 :: o3 :: o4 :: o5 :: o6 :: o7 :: o8 :: o9 :: o10 :: o11 :: o12 :: r)) (v := .double x) hl' (fun k o e h => by cases (show k = 10 by omega); cases h; exact hw)) hP hS)

theorem e_iadd {x y : Int32} (hd : decode K.2.1 pc = .ok (.iadd, 1)) (hp : pc + 1 = pc') (kk : Ev l K G R n u w pc' lo (.int (x + y) :: st) M) : Ev l K G R n u w pc lo (.int y :: .int x :: st) M := by
  subst hp
  exact fun p e s m args below meth c D cy L A H locs ls X hl hP hS => lv_iadd X.1 X.2.1 hd (kk p e s m args below meth c D cy L A H locs ls X hl hP hS)

theorem e_isub {x y : Int32} (hd : decode K.2.1 pc = .ok (.isub, 1)) (hp : pc + 1 = pc') (kk : Ev l K G R n u w pc' lo (.int (x - y) :: st) M) : Ev l K G R n u w pc lo (.int y :: .int x :: st) M := by
  subst hp
  exact fun p e s m args below meth c D cy L A H locs ls X hl hP hS => lv_isub X.1 X.2.1 hd (kk p e s m args below meth c D cy L A H locs ls X hl hP hS)

theorem e_imul {x y : Int32} (hd : decode K.2.1 pc = .ok (.imul, 1)) (hp : pc + 1 = pc') (kk : Ev l K G R n u w pc' lo (.int (x * y) :: st) M) : Ev l K G R n u w pc lo (.int y :: .int x :: st) M := by
  subst hp
  exact fun p e s m args below meth c D cy L A H locs ls X hl hP hS => lv_imul X.1 X.2.1 hd (kk p e s m args below meth c D cy L A H locs ls X hl hP hS)

theorem e_iand {x y : Int32} (hd : decode K.2.1 pc = .ok (.iand, 1)) (hp : pc + 1 = pc') (kk : Ev l K G R n u w pc' lo (.int (x &&& y) :: st) M) : Ev l K G R n u w pc lo (.int y :: .int x :: st) M := by
  subst hp
  exact fun p e s m args below meth c D cy L A H locs ls X hl hP hS => lv_iand X.1 X.2.1 hd (kk p e s m args below meth c D cy L A H locs ls X hl hP hS)

theorem e_ior {x y : Int32} (hd : decode K.2.1 pc = .ok (.ior, 1)) (hp : pc + 1 = pc') (kk : Ev l K G R n u w pc' lo (.int (x ||| y) :: st) M) : Ev l K G R n u w pc lo (.int y :: .int x :: st) M := by
  subst hp
  exact fun p e s m args below meth c D cy L A H locs ls X hl hP hS => lv_ior X.1 X.2.1 hd (kk p e s m args below meth c D cy L A H locs ls X hl hP hS)

theorem e_ixor {x y : Int32} (hd : decode K.2.1 pc = .ok (.ixor, 1)) (hp : pc + 1 = pc') (kk : Ev l K G R n u w pc' lo (.int (x ^^^ y) :: st) M) : Ev l K G R n u w pc lo (.int y :: .int x :: st) M := by
  subst hp
  exact fun p e s m args below meth c D cy L A H locs ls X hl hP hS => lv_ixor X.1 X.2.1 hd (kk p e s m args below meth c D cy L A H locs ls X hl hP hS)

theorem e_ishl {x y : Int32} (hd : decode K.2.1 pc = .ok (.ishl, 1)) (hp : pc + 1 = pc') (kk : Ev l K G R n u w pc' lo (.int (x <<< (y &&& 31)) :: st) M) : Ev l K G R n u w pc lo (.int y :: .int x :: st) M := by
  subst hp
  exact fun p e s m args below meth c D cy L A H locs ls X hl hP hS => lv_ishl X.1 X.2.1 hd (kk p e s m args below meth c D cy L A H locs ls X hl hP hS)

theorem e_ishr {x y : Int32} (hd : decode K.2.1 pc = .ok (.ishr, 1)) (hp : pc + 1 = pc') (kk : Ev l K G R n u w pc' lo (.int (x >>> (y &&& 31)) :: st) M) : Ev l K G R n u w pc lo (.int y :: .int x :: st) M := by
  subst hp
  exact fun p e s m args below meth c D cy L A H locs ls X hl hP hS => lv_ishr X.1 X.2.1 hd (kk p e s m args below meth c D cy L A H locs ls X hl hP hS)

def pmUs (x y : Int32) : Int32 := (x.toUInt32 >>> (y.toUInt32 &&& Int32.toUInt32 31)).toInt32
theorem e_iushr {x y : Int32} (hd : decode K.2.1 pc = .ok (.iushr, 1)) (hp : pc + 1 = pc') (kk : Ev l K G R n u w pc' lo (.int (pmUs x y) :: st) M) : Ev l K G R n u w pc lo (.int y :: .int x :: st) M := by
  subst hp
  exact fun p e s m args below meth c D cy L A H locs ls X hl hP hS => lv_iushr X.1 X.2.1 hd rfl (kk p e s m args below meth c D cy L A H locs ls X hl hP hS)
theorem e_idiv {x y : Int32} (hd : decode K.2.1 pc = .ok (.idiv, 1)) (hp : pc + 1 = pc') (hne : ¬ y = 0) (kk : Ev l K G R n u w pc' lo (.int (x / y) :: st) M) : Ev l K G R n u w pc lo (.int y :: .int x :: st) M := by
  subst hp
  exact fun p e s m args below meth c D cy L A H locs ls X hl hP hS => lv_idiv X.1 X.2.1 hd hne (kk p e s m args below meth c D cy L A H locs ls X hl hP hS)
theorem e_irem {x y : Int32} (hd : decode K.2.1 pc = .ok (.irem, 1)) (hp : pc + 1 = pc') (hne : ¬ y = 0) (kk : Ev l K G R n u w pc' lo (.int (x - x / y * y) :: st) M) : Ev l K G R n u w pc lo (.int y :: .int x :: st) M := by
  subst hp
  exact fun p e s m args below meth c D cy L A H locs ls X hl hP hS => lv_irem X.1 X.2.1 hd hne (kk p e s m args below meth c D cy L A H locs ls X hl hP hS)
theorem e_ineg {x : Int32} (hd : decode K.2.1 pc = .ok (.ineg, 1)) (hp : pc + 1 = pc') (kk : Ev l K G R n u w pc' lo (.int (-x) :: st) M) : Ev l K G R n u w pc lo (.int x :: st) M := by
  subst hp
  exact fun p e s m args below meth c D cy L A H locs ls X hl hP hS => lv_ineg X.1 X.2.1 hd (kk p e s m args below meth c D cy L A H locs ls X hl hP hS)
theorem e_i2l {x : Int32} (hd : decode K.2.1 pc = .ok (.i2l, 1)) (hp : pc + 1 = pc') (kk : Ev l K G R n u w pc' lo (.long x.toInt64 :: st) M) : Ev l K G R n u w pc lo (.int x :: st) M := by
  subst hp
  exact fun p e s m args below meth c D cy L A H locs ls X hl hP hS => lv_i2l X.1 X.2.1 hd rfl (kk p e s m args below meth c D cy L A H locs ls X hl hP hS)
theorem e_i2c {x : Int32} (hd : decode K.2.1 pc = .ok (.i2c, 1)) (hp : pc + 1 = pc') (kk : Ev l K G R n u w pc' lo (.int (x.toUInt32 % 65536).toInt32 :: st) M) : Ev l K G R n u w pc lo (.int x :: st) M := by
  subst hp
  exact fun p e s m args below meth c D cy L A H locs ls X hl hP hS => lv_i2c X.1 X.2.1 hd rfl (kk p e s m args below meth c D cy L A H locs ls X hl hP hS)
theorem e_i2f {x : Int32} (hd : decode K.2.1 pc = .ok (.i2f, 1)) (hp : pc + 1 = pc') (kk : Ev l K G R n u w pc' lo (.float (FP.i2f x) :: st) M) : Ev l K G R n u w pc lo (.int x :: st) M := by
  subst hp
  exact fun p e s m args below meth c D cy L A H locs ls X hl hP hS => lv_i2f X.1 X.2.1 hd (kk p e s m args below meth c D cy L A H locs ls X hl hP hS)
theorem e_i2d {x : Int32} (hd : decode K.2.1 pc = .ok (.i2d, 1)) (hp : pc + 1 = pc') (kk : Ev l K G R n u w pc' lo (.double (FP.i2d x) :: st) M) : Ev l K G R n u w pc lo (.int x :: st) M := by
  subst hp
  exact fun p e s m args below meth c D cy L A H locs ls X hl hP hS => lv_i2d X.1 X.2.1 hd (kk p e s m args below meth c D cy L A H locs ls X hl hP hS)
theorem e_f2d {x : UInt32} (hd : decode K.2.1 pc = .ok (.f2d, 1)) (hp : pc + 1 = pc') (hne : vf_n64 (FP.f2d x)) (kk : Ev l K G R n u w pc' lo (.double (FP.f2d x) :: st) M) : Ev l K G R n u w pc lo (.float x :: st) M := by
  subst hp
  exact fun p e s m args below meth c D cy L A H locs ls X hl hP hS => lv_f2d X.1 X.2.1 hd hne (kk p e s m args below meth c D cy L A H locs ls X hl hP hS)
theorem e_fdiv {x y : UInt32} (hd : decode K.2.1 pc = .ok (.fdiv, 1)) (hp : pc + 1 = pc') (hne : vf_n32 (FP.fdiv x y)) (kk : Ev l K G R n u w pc' lo (.float (FP.fdiv x y) :: st) M) : Ev l K G R n u w pc lo (.float y :: .float x :: st) M := by
  subst hp
  exact fun p e s m args below meth c D cy L A H locs ls X hl hP hS => lv_fdiv X.1 X.2.1 hd hne (kk p e s m args below meth c D cy L A H locs ls X hl hP hS)
theorem e_ddiv {x y : UInt64} (hd : decode K.2.1 pc = .ok (.ddiv, 1)) (hp : pc + 1 = pc') (hne : vf_n64 (FP.ddiv x y)) (kk : Ev l K G R n u w pc' lo (.double (FP.ddiv x y) :: st) M) : Ev l K G R n u w pc lo (.double y :: .double x :: st) M := by
  subst hp
  exact fun p e s m args below meth c D cy L A H locs ls X hl hP hS => lv_ddiv X.1 X.2.1 hd hne (kk p e s m args below meth c D cy L A H locs ls X hl hP hS)
theorem e_fcmp {x y : UInt32} {op : CmpOp} (hd : decode K.2.1 pc = .ok (.fcmp op, 1)) (hp : pc + 1 = pc') (kk : Ev l K G R n u w pc' lo (.int (Op.cmpValue (FP.fcmp x y) op) :: st) M) : Ev l K G R n u w pc lo (.float y :: .float x :: st) M := by
  subst hp
  exact fun p e s m args below meth c D cy L A H locs ls X hl hP hS => lv_fcmp X.1 X.2.1 hd (kk p e s m args below meth c D cy L A H locs ls X hl hP hS)
theorem e_dcmp {x y : UInt64} {op : CmpOp} (hd : decode K.2.1 pc = .ok (.dcmp op, 1)) (hp : pc + 1 = pc') (kk : Ev l K G R n u w pc' lo (.int (Op.cmpValue (FP.dcmp x y) op) :: st) M) : Ev l K G R n u w pc lo (.double y :: .double x :: st) M := by
  subst hp
  exact fun p e s m args below meth c D cy L A H locs ls X hl hP hS => lv_dcmp X.1 X.2.1 hd (kk p e s m args below meth c D cy L A H locs ls X hl hP hS)
theorem e_lcmp {x y : Int64} (hd : decode K.2.1 pc = .ok (.lcmp, 1)) (hp : pc + 1 = pc') (kk : Ev l K G R n u w pc' lo (.int (lg_cmp x y) :: st) M) : Ev l K G R n u w pc lo (.long y :: .long x :: st) M := by
  subst hp
  exact fun p e s m args below meth c D cy L A H locs ls X hl hP hS => W.lcmp X.1 X.2.1 hd (kk p e s m args below meth c D cy L A H locs ls X hl hP hS)
theorem e_dup {v : Value} (hd : decode K.2.1 pc = .ok (.dup, 1)) (hp : pc + 1 = pc') (hc : v.category = 1) (kk : Ev l K G R n u w pc' lo (v :: v :: st) M) : Ev l K G R n u w pc lo (v :: st) M := by
  subst hp
  exact fun p e s m args below meth c D cy L A H locs ls X hl hP hS => lv_dup X.1 X.2.1 hd ((pmV_cat L v).trans hc) (kk p e s m args below meth c D cy L A H locs ls X hl hP hS)
theorem e_dup2 {v v2 : Value} (hd : decode K.2.1 pc = .ok (.dup2, 1)) (hp : pc + 1 = pc') (hc : v.category = 1) (hc2 : v2.category = 1) (kk : Ev l K G R n u w pc' lo (v :: v2 :: v :: v2 :: st) M) : Ev l K G R n u w pc lo (v :: v2 :: st) M := by
  subst hp
  exact fun p e s m args below meth c D cy L A H locs ls X hl hP hS => lv_dup2_11 X.1 X.2.1 hd ((pmV_cat L v).trans hc) ((pmV_cat L v2).trans hc2) (kk p e s m args below meth c D cy L A H locs ls X hl hP hS)
theorem e_pop {v : Value} (hd : decode K.2.1 pc = .ok (.pop, 1)) (hp : pc + 1 = pc') (hc : v.category = 1) (kk : Ev l K G R n u w pc' lo st M) : Ev l K G R n u w pc lo (v :: st) M := by
  subst hp
  exact fun p e s m args below meth c D cy L A H locs ls X hl hP hS => lv_pop X.1 X.2.1 hd ((pmV_cat L v).trans hc) (kk p e s m args below meth c D cy L A H locs ls X hl hP hS)
theorem e_goto {off : Int} {tgt : Nat} (hd : decode K.2.1 pc = .ok (.goto off, 3)) (ht : (pc : Int) + off = (tgt : Int)) (kk : Ev l K G R n u w tgt lo st M) : Ev l K G R n u w pc lo st M :=
  fun p e s m args below meth c D cy L A H locs ls X hl hP hS => lv_goto X.1 X.2.1 hd ht (kk p e s m args below meth c D cy L A H locs ls X hl hP hS)
/-- a name for what lies on the stack -/
theorem e_topi {x : Int32} (y : Int32) (h : x = y) (kk : Ev l K G R n u w pc lo (.int y :: st) M) : Ev l K G R n u w pc lo (.int x :: st) M := h ▸ kk
theorem e_mem {M1 : pmM} (h : M = M1) (kk : Ev l K G R n u w pc lo st M1) : Ev l K G R n u w pc lo st M := h ▸ kk
theorem e_loc {lo1 : List (Option Value)} (h : lo = lo1) (kk : Ev l K G R n u w pc lo1 st M) : Ev l K G R n u w pc lo st M := h ▸ kk
theorem e_use {u1 w1 : Nat} (h1 : u ≤ u1) (h2 : w ≤ w1) (kk : Ev l K G R n u1 w1 pc lo st M) : Ev l K G R n u w pc lo st M :=
  fun p e s m args below meth c D cy L A H locs ls X hl hP hS => W.widen h1 h2 (kk p e s m args below meth c D cy L A H locs ls X hl hP hS)

theorem e_if_eq {x : Int32} {off : Int} {tgt : Nat} (hd : decode K.2.1 pc = .ok (.ifCond .eq off, 3)) (ht : (pc : Int) + off = (tgt : Int)) (hp : pc + 3 = pc') (kt : x = 0 → Ev l K G R n u w tgt lo st M) (kf : ¬ x = 0 → Ev l K G R n u w pc' lo st M) : Ev l K G R n u w pc lo (.int x :: st) M := by
  subst hp
  exact fun p e s m args below meth c D cy L A H locs ls X hl hP hS => lv_if_eq X.1 X.2.1 hd ht (fun q => kt q p e s m args below meth c D cy L A H locs ls X hl hP hS) (fun q => kf q p e s m args below meth c D cy L A H locs ls X hl hP hS)

theorem e_if_ne {x : Int32} {off : Int} {tgt : Nat} (hd : decode K.2.1 pc = .ok (.ifCond .ne off, 3)) (ht : (pc : Int) + off = (tgt : Int)) (hp : pc + 3 = pc') (kt : ¬ x = 0 → Ev l K G R n u w tgt lo st M) (kf : x = 0 → Ev l K G R n u w pc' lo st M) : Ev l K G R n u w pc lo (.int x :: st) M := by
  subst hp
  exact fun p e s m args below meth c D cy L A H locs ls X hl hP hS => lv_if_ne X.1 X.2.1 hd ht (fun q => kt q p e s m args below meth c D cy L A H locs ls X hl hP hS) (fun q => kf q p e s m args below meth c D cy L A H locs ls X hl hP hS)

theorem e_if_lt {x : Int32} {off : Int} {tgt : Nat} (hd : decode K.2.1 pc = .ok (.ifCond .lt off, 3)) (ht : (pc : Int) + off = (tgt : Int)) (hp : pc + 3 = pc') (kt : x < 0 → Ev l K G R n u w tgt lo st M) (kf : ¬ x < 0 → Ev l K G R n u w pc' lo st M) : Ev l K G R n u w pc lo (.int x :: st) M := by
  subst hp
  exact fun p e s m args below meth c D cy L A H locs ls X hl hP hS => lv_if_lt X.1 X.2.1 hd ht (fun q => kt q p e s m args below meth c D cy L A H locs ls X hl hP hS) (fun q => kf q p e s m args below meth c D cy L A H locs ls X hl hP hS)

theorem e_if_ge {x : Int32} {off : Int} {tgt : Nat} (hd : decode K.2.1 pc = .ok (.ifCond .ge off, 3)) (ht : (pc : Int) + off = (tgt : Int)) (hp : pc + 3 = pc') (kt : 0 ≤ x → Ev l K G R n u w tgt lo st M) (kf : ¬ 0 ≤ x → Ev l K G R n u w pc' lo st M) : Ev l K G R n u w pc lo (.int x :: st) M := by
  subst hp
  exact fun p e s m args below meth c D cy L A H locs ls X hl hP hS => lv_if_ge X.1 X.2.1 hd ht (fun q => kt q p e s m args below meth c D cy L A H locs ls X hl hP hS) (fun q => kf q p e s m args below meth c D cy L A H locs ls X hl hP hS)

theorem e_if_gt {x : Int32} {off : Int} {tgt : Nat} (hd : decode K.2.1 pc = .ok (.ifCond .gt off, 3)) (ht : (pc : Int) + off = (tgt : Int)) (hp : pc + 3 = pc') (kt : 0 < x → Ev l K G R n u w tgt lo st M) (kf : ¬ 0 < x → Ev l K G R n u w pc' lo st M) : Ev l K G R n u w pc lo (.int x :: st) M := by
  subst hp
  exact fun p e s m args below meth c D cy L A H locs ls X hl hP hS => lv_if_gt X.1 X.2.1 hd ht (fun q => kt q p e s m args below meth c D cy L A H locs ls X hl hP hS) (fun q => kf q p e s m args below meth c D cy L A H locs ls X hl hP hS)

theorem e_if_le {x : Int32} {off : Int} {tgt : Nat} (hd : decode K.2.1 pc = .ok (.ifCond .le off, 3)) (ht : (pc : Int) + off = (tgt : Int)) (hp : pc + 3 = pc') (kt : x ≤ 0 → Ev l K G R n u w tgt lo st M) (kf : ¬ x ≤ 0 → Ev l K G R n u w pc' lo st M) : Ev l K G R n u w pc lo (.int x :: st) M := by
  subst hp
  exact fun p e s m args below meth c D cy L A H locs ls X hl hP hS => lv_if_le X.1 X.2.1 hd ht (fun q => kt q p e s m args below meth c D cy L A H locs ls X hl hP hS) (fun q => kf q p e s m args below meth c D cy L A H locs ls X hl hP hS)

theorem e_ic_eq {x y : Int32} {off : Int} {tgt : Nat} (hd : decode K.2.1 pc = .ok (.if_icmp .eq off, 3)) (ht : (pc : Int) + off = (tgt : Int)) (hp : pc + 3 = pc') (kt : x = y → Ev l K G R n u w tgt lo st M) (kf : ¬ x = y → Ev l K G R n u w pc' lo st M) : Ev l K G R n u w pc lo (.int y :: .int x :: st) M := by
  subst hp
  exact fun p e s m args below meth c D cy L A H locs ls X hl hP hS => lv_icmp_eq X.1 X.2.1 hd ht (fun q => kt q p e s m args below meth c D cy L A H locs ls X hl hP hS) (fun q => kf q p e s m args below meth c D cy L A H locs ls X hl hP hS)

theorem e_ic_ne {x y : Int32} {off : Int} {tgt : Nat} (hd : decode K.2.1 pc = .ok (.if_icmp .ne off, 3)) (ht : (pc : Int) + off = (tgt : Int)) (hp : pc + 3 = pc') (kt : ¬ x = y → Ev l K G R n u w tgt lo st M) (kf : x = y → Ev l K G R n u w pc' lo st M) : Ev l K G R n u w pc lo (.int y :: .int x :: st) M := by
  subst hp
  exact fun p e s m args below meth c D cy L A H locs ls X hl hP hS => lv_icmp_ne X.1 X.2.1 hd ht (fun q => kt q p e s m args below meth c D cy L A H locs ls X hl hP hS) (fun q => kf q p e s m args below meth c D cy L A H locs ls X hl hP hS)

theorem e_ic_lt {x y : Int32} {off : Int} {tgt : Nat} (hd : decode K.2.1 pc = .ok (.if_icmp .lt off, 3)) (ht : (pc : Int) + off = (tgt : Int)) (hp : pc + 3 = pc') (kt : x < y → Ev l K G R n u w tgt lo st M) (kf : ¬ x < y → Ev l K G R n u w pc' lo st M) : Ev l K G R n u w pc lo (.int y :: .int x :: st) M := by
  subst hp
  exact fun p e s m args below meth c D cy L A H locs ls X hl hP hS => lv_icmp_lt X.1 X.2.1 hd ht (fun q => kt q p e s m args below meth c D cy L A H locs ls X hl hP hS) (fun q => kf q p e s m args below meth c D cy L A H locs ls X hl hP hS)

theorem e_ic_ge {x y : Int32} {off : Int} {tgt : Nat} (hd : decode K.2.1 pc = .ok (.if_icmp .ge off, 3)) (ht : (pc : Int) + off = (tgt : Int)) (hp : pc + 3 = pc') (kt : y ≤ x → Ev l K G R n u w tgt lo st M) (kf : ¬ y ≤ x → Ev l K G R n u w pc' lo st M) : Ev l K G R n u w pc lo (.int y :: .int x :: st) M := by
  subst hp
  exact fun p e s m args below meth c D cy L A H locs ls X hl hP hS => lv_icmp_ge X.1 X.2.1 hd ht (fun q => kt q p e s m args below meth c D cy L A H locs ls X hl hP hS) (fun q => kf q p e s m args below meth c D cy L A H locs ls X hl hP hS)

theorem e_ic_gt {x y : Int32} {off : Int} {tgt : Nat} (hd : decode K.2.1 pc = .ok (.if_icmp .gt off, 3)) (ht : (pc : Int) + off = (tgt : Int)) (hp : pc + 3 = pc') (kt : y < x → Ev l K G R n u w tgt lo st M) (kf : ¬ y < x → Ev l K G R n u w pc' lo st M) : Ev l K G R n u w pc lo (.int y :: .int x :: st) M := by
  subst hp
  exact fun p e s m args below meth c D cy L A H locs ls X hl hP hS => lv_icmp_gt X.1 X.2.1 hd ht (fun q => kt q p e s m args below meth c D cy L A H locs ls X hl hP hS) (fun q => kf q p e s m args below meth c D cy L A H locs ls X hl hP hS)

theorem e_ic_le {x y : Int32} {off : Int} {tgt : Nat} (hd : decode K.2.1 pc = .ok (.if_icmp .le off, 3)) (ht : (pc : Int) + off = (tgt : Int)) (hp : pc + 3 = pc') (kt : x ≤ y → Ev l K G R n u w tgt lo st M) (kf : ¬ x ≤ y → Ev l K G R n u w pc' lo st M) : Ev l K G R n u w pc lo (.int y :: .int x :: st) M := by
  subst hp
  exact fun p e s m args below meth c D cy L A H locs ls X hl hP hS => lv_icmp_le X.1 X.2.1 hd ht (fun q => kt q p e s m args below meth c D cy L A H locs ls X hl hP hS) (fun q => kf q p e s m args below meth c D cy L A H locs ls X hl hP hS)

theorem e_getI {a ci k idx N : Nat} {q : Bool} (hd : decode K.2.1 pc = .ok (.getfield idx, 3)) (hp : pc + 3 = pc') (hk : pmLk K.1.cls idx ci k q) (ht : pmTy ci k = true) (hs : psh a = (ci, N)) (hc : ci < 5) (ha : a < n) (kk : Ev l K G R n u w pc' lo (.int (M.1 a k) :: st) M) : Ev l K G R n u w pc lo (.ref a :: st) M := by
  subst hp
  refine fun p e s m args below meth c D cy L A H locs ls X hl hP hS => ?_
  obtain ⟨C, T, N', h1, h2, -, h3⟩ := hk
  obtain ⟨hin, -, -⟩ := pm_cls ci C T N' h1
  have hN : N = N' := by
    have : psh a = (ci, N) := hs
    match ci, h1, hs with
    | 0, h1, hs => cases h1; exact pm_len hs
    | 1, h1, hs => cases h1; exact pm_len hs
    | 2, h1, hs => cases h1; exact pm_len hs
    | 3, h1, hs => cases h1; exact pm_len hs
    | 4, h1, hs => cases h1; exact pm_len hs
    | z + 5, h1, hs => simp at h1
  subst hN
  have he := pmWl_get (cy := cy) (L := L) (M := M) ha
  rw [pmE_obj hs hc] at he
  have hv : ((List.range N).map (pmF L M a ci))[k]? = some (.int (M.1 a k)) := by simp [h2, pmF, ht]
  rcases h3 with h3 | ⟨host, h3⟩
  · exact va_get X.1 X.2.1 X.2.2.2.2.1 hin X.2.2.2.1 X.2.2.2.2.2.2.2.2.2.2.1.1 hP a he h1 k h2 (X.2.2.2.2.1 _ h3) (fun _ h => h) hv hd (kk p e s m args below meth c D cy L A H locs ls X hl hP hS)
  · exact va_getN X.1 X.2.1 X.2.2.2.2.1 hin X.2.2.2.1 X.2.2.2.2.2.2.2.2.2.2.1.1 hP a he h1 k h2 (va_Nw.use rfl (X.2.2.2.2.2.2.2.2.2.2.1.2.1 _ h3)) (fun _ h => h) hv hd (kk p e s m args below meth c D cy L A H locs ls X hl hP hS)
theorem e_getR {a ci k idx N b : Nat} {q : Bool} (hd : decode K.2.1 pc = .ok (.getfield idx, 3)) (hp : pc + 3 = pc') (hk : pmLk K.1.cls idx ci k q) (ht : pmTy ci k = false) (hs : psh a = (ci, N)) (hc : ci < 5) (ha : a < n) (hr : M.2.1 a k = some b) (kk : Ev l K G R n u w pc' lo (.ref b :: st) M) : Ev l K G R n u w pc lo (.ref a :: st) M := by
  subst hp
  refine fun p e s m args below meth c D cy L A H locs ls X hl hP hS => ?_
  obtain ⟨C, T, N', h1, h2, -, h3⟩ := hk
  obtain ⟨hin, -, -⟩ := pm_cls ci C T N' h1
  have hN : N = N' := by
    match ci, h1, hs with
    | 0, h1, hs => cases h1; exact pm_len hs
    | 1, h1, hs => cases h1; exact pm_len hs
    | 2, h1, hs => cases h1; exact pm_len hs
    | 3, h1, hs => cases h1; exact pm_len hs
    | 4, h1, hs => cases h1; exact pm_len hs
    | z + 5, h1, hs => simp at h1
  subst hN
  have he := pmWl_get (cy := cy) (L := L) (M := M) ha
  rw [pmE_obj hs hc] at he
  have hv : ((List.range N).map (pmF L M a ci))[k]? = some (.ref (L b)) := by simp [h2, pmF, ht, hr, va_rf]
  rcases h3 with h3 | ⟨host, h3⟩
  · exact va_get X.1 X.2.1 X.2.2.2.2.1 hin X.2.2.2.1 X.2.2.2.2.2.2.2.2.2.2.1.1 hP a he h1 k h2 (X.2.2.2.2.1 _ h3) (fun _ h => h) hv hd (kk p e s m args below meth c D cy L A H locs ls X hl hP hS)
  · exact va_getN X.1 X.2.1 X.2.2.2.2.1 hin X.2.2.2.1 X.2.2.2.2.2.2.2.2.2.2.1.1 hP a he h1 k h2 (va_Nw.use rfl (X.2.2.2.2.2.2.2.2.2.2.1.2.1 _ h3)) (fun _ h => h) hv hd (kk p e s m args below meth c D cy L A H locs ls X hl hP hS)
theorem e_putI {a ci k idx N : Nat} {x : Int32} (hd : decode K.2.1 pc = .ok (.putfield idx, 3)) (hp : pc + 3 = pc') (hk : pmLk K.1.cls idx ci k true) (ht : pmTy ci k = true) (hn : narrow (pmFt ci k) (.int x) = .int x) (hf : fits (pmFt ci k) (.int x) = true) (hs : psh a = (ci, N)) (hc : ci < 5) (ha : a < n) (kk : Ev l K G R n u w pc' lo st (pm2 M.1 a k x, M.2)) : Ev l K G R n u w pc lo (.int x :: .ref a :: st) M := by
  subst hp
  refine fun p e s m args below meth c D cy L A H locs ls X hl hP hS => ?_
  obtain ⟨C, T, N', h1, h2, h4, h3⟩ := hk
  obtain ⟨hin, hty, hnm⟩ := pm_cls ci C T N' h1
  have hfin : (T k).2.2.2 = false := h4.resolve_right (by decide)
  have hN : N = N' := by
    match ci, h1, hs with
    | 0, h1, hs => cases h1; exact pm_len hs
    | 1, h1, hs => cases h1; exact pm_len hs
    | 2, h1, hs => cases h1; exact pm_len hs
    | 3, h1, hs => cases h1; exact pm_len hs
    | 4, h1, hs => cases h1; exact pm_len hs
    | z + 5, h1, hs => simp at h1
  subst hN
  have he := pmWl_get (cy := cy) (L := L) (M := M) ha
  rw [pmE_obj hs hc] at he
  have hD := pmWl_D (cy := cy) (M := M) X.2.2.2.2.2.2.2.2.2.2.2.2.2.1 X.2.2.2.2.2.2.2.2.2.2.2.2.2.2
  have hset : ((List.range N).map (pmF L M a ci)).set k (.int x) = (List.range N).map (pmF L (pm2 M.1 a k x, M.2) a ci) :=
    pm_fset h2 (by simp [pmF, ht, pm2]) (fun j hj => by simp [pmF, pm2, hj])
  have hW : (pmWl cy L M n).set a (L a, .inr (ci, ((List.range N).map (pmF L M a ci)).set k (.int x))) = pmWl cy L (pm2 M.1 a k x, M.2) n :=
    pmWl_set (by rw [hset, pmE_obj hs hc]) (fun j _ hj => pmE_congr (pm2_ne hj) rfl rfl rfl)
  rcases h3 with h3 | ⟨host, h3⟩
  · exact va_put X.1 X.2.1 X.2.2.2.2.1 hin (pmFt ci) hty hnm X.2.2.2.1 X.2.2.2.2.2.2.2.2.2.2.1.1 hP hD hS a he h1 k h2 (X.2.2.2.2.1 _ h3) (fun _ h => h) hfin (hty k h2) hn hf (by simp [h2]) hd (fun H1 locs1 hP1 _ hS1 => kk p e s m args below meth c D cy L A H1 locs1 ls X hl (hW ▸ hP1) hS1)
  · exact va_putN X.1 X.2.1 X.2.2.2.2.1 hin (pmFt ci) hty hnm X.2.2.2.1 X.2.2.2.2.2.2.2.2.2.2.1.1 hP hD hS a he h1 k h2 (va_Nw.use rfl (X.2.2.2.2.2.2.2.2.2.2.1.2.1 _ h3)) (fun _ h => h) hfin (hty k h2) hn hf (by simp [h2]) hd (fun H1 locs1 hP1 _ hS1 => kk p e s m args below meth c D cy L A H1 locs1 ls X hl (hW ▸ hP1) hS1)
theorem e_iald {a N j : Nat} {i : Int32} (hd : decode K.2.1 pc = .ok (.iaload, 1)) (hp : pc + 1 = pc') (hs : psh a = (5, N)) (ha : a < n) (hi : i = nI j) (hj : j < N) (kk : Ev l K G R n u w pc' lo (.int (M.1 a j) :: st) M) : Ev l K G R n u w pc lo (.int i :: .ref a :: st) M := by
  subst hp
  subst hi
  refine fun p e s m args below meth c D cy L A H locs ls X hl hP hS => ?_
  have hb := pm_len31 a
  rw [hs] at hb
  have he := pmWl_get (cy := cy) (L := L) (M := M) ha
  rw [pmE_int hs (Or.inl rfl)] at he
  refine va_iald X.1 X.2.1 X.2.2.2.2.2.2.2.2.2.2.1.1 hP a 0 he rfl (vp_in_nI hj (by show N < _; omega)) hd ?_
  rw [nI_clamp (show j < 2 ^ 31 by have : N < 2 ^ 31 := hb; omega)]
  exact kk p e s m args below meth c D cy L A H locs ls X hl hP hS
theorem e_iast {a N j : Nat} {i x : Int32} (hd : decode K.2.1 pc = .ok (.iastore, 1)) (hp : pc + 1 = pc') (hs : psh a = (5, N)) (ha : a < n) (hi : i = nI j) (hj : j < N) (kk : Ev l K G R n u w pc' lo st (pm2 M.1 a j x, M.2)) : Ev l K G R n u w pc lo (.int x :: .int i :: .ref a :: st) M := by
  subst hp
  subst hi
  refine fun p e s m args below meth c D cy L A H locs ls X hl hP hS => ?_
  have hb := pm_len31 a
  rw [hs] at hb
  have he := pmWl_get (cy := cy) (L := L) (M := M) ha
  rw [pmE_int hs (Or.inl rfl)] at he
  have hD := pmWl_D (cy := cy) (M := M) X.2.2.2.2.2.2.2.2.2.2.2.2.2.1 X.2.2.2.2.2.2.2.2.2.2.2.2.2.2
  refine va_iast X.1 X.2.1 X.2.2.2.2.2.2.2.2.2.2.1.1 hP hD hS a 0 he rfl (vp_in_nI hj (by show N < _; omega)) hd (fun H1 locs1 hP1 _ hS1 => ?_)
  rw [nI_clamp (show j < 2 ^ 31 by have : N < 2 ^ 31 := hb; omega)] at hP1
  have hW : (pmWl cy L M n).set a (L a, .inl (cy 5, N, .inl (upd (M.1 a) j x))) = pmWl cy L (pm2 M.1 a j x, M.2) n :=
    pmWl_set (by rw [pmE_int hs (Or.inl rfl)]; show _ = Sum.inl (cy 5, N, Sum.inl (pm2 M.1 a j x a)); rw [pm2_self]) (fun q _ hq => pmE_congr (pm2_ne hq) rfl rfl rfl)
  exact kk p e s m args below meth c D cy L A H1 locs1 ls X hl (hW ▸ hP1) hS1
theorem e_zald {a N j : Nat} {i : Int32} (hd : decode K.2.1 pc = .ok (.baload, 1)) (hp : pc + 1 = pc') (hs : psh a = (6, N)) (ha : a < n) (hi : i = nI j) (hj : j < N) (kk : Ev l K G R n u w pc' lo (.int (M.1 a j) :: st) M) : Ev l K G R n u w pc lo (.int i :: .ref a :: st) M := by
  subst hp
  subst hi
  refine fun p e s m args below meth c D cy L A H locs ls X hl hP hS => ?_
  have hb := pm_len31 a
  rw [hs] at hb
  have he := pmWl_get (cy := cy) (L := L) (M := M) ha
  rw [pmE_int hs (Or.inr rfl)] at he
  refine va_zald X.1 X.2.1 X.2.2.2.2.2.2.2.2.2.2.1.1 hP a 1 he rfl (vp_in_nI hj (by show N < _; omega)) hd ?_
  rw [nI_clamp (show j < 2 ^ 31 by have : N < 2 ^ 31 := hb; omega)]
  exact kk p e s m args below meth c D cy L A H locs ls X hl hP hS
theorem e_zast {a N j : Nat} {i x : Int32} (hd : decode K.2.1 pc = .ok (.bastore, 1)) (hp : pc + 1 = pc') (hs : psh a = (6, N)) (ha : a < n) (hi : i = nI j) (hj : j < N) (hx : vp_nar .boolean x = x) (kk : Ev l K G R n u w pc' lo st (pm2 M.1 a j x, M.2)) : Ev l K G R n u w pc lo (.int x :: .int i :: .ref a :: st) M := by
  subst hp
  subst hi
  refine fun p e s m args below meth c D cy L A H locs ls X hl hP hS => ?_
  have hb := pm_len31 a
  rw [hs] at hb
  have he := pmWl_get (cy := cy) (L := L) (M := M) ha
  rw [pmE_int hs (Or.inr rfl)] at he
  have hD := pmWl_D (cy := cy) (M := M) X.2.2.2.2.2.2.2.2.2.2.2.2.2.1 X.2.2.2.2.2.2.2.2.2.2.2.2.2.2
  refine va_zast X.1 X.2.1 X.2.2.2.2.2.2.2.2.2.2.1.1 hP hD hS a 1 he rfl (vp_in_nI hj (by show N < _; omega)) hd (fun H1 locs1 hP1 _ hS1 => ?_)
  rw [nI_clamp (show j < 2 ^ 31 by have : N < 2 ^ 31 := hb; omega), hx] at hP1
  have hW : (pmWl cy L M n).set a (L a, .inl (cy 6, N, .inl (upd (M.1 a) j x))) = pmWl cy L (pm2 M.1 a j x, M.2) n :=
    pmWl_set (by rw [pmE_int hs (Or.inr rfl)]; show _ = Sum.inl (cy 6, N, Sum.inl (pm2 M.1 a j x a)); rw [pm2_self]) (fun q _ hq => pmE_congr (pm2_ne hq) rfl rfl rfl)
  exact kk p e s m args below meth c D cy L A H1 locs1 ls X hl (hW ▸ hP1) hS1
/-- which array of references is which: its place among pmTys -/
theorem e_aald {a N j k b : Nat} {i : Int32} (hd : decode K.2.1 pc = .ok (.aaload, 1)) (hp : pc + 1 = pc') (hs : psh a = (k, N)) (h7 : 7 ≤ k) (h10 : k ≤ 10) (ha : a < n) (hi : i = nI j) (hj : j < N) (hr : M.2.1 a j = some b) (kk : Ev l K G R n u w pc' lo (.ref b :: st) M) : Ev l K G R n u w pc lo (.int i :: .ref a :: st) M := by
  subst hp
  subst hi
  refine fun p e s m args below meth c D cy L A H locs ls X hl hP hS => ?_
  have hb := pm_len31 a
  rw [hs] at hb
  have hN : N < 2 ^ 31 := hb
  have he := pmWl_get (cy := cy) (L := L) (M := M) ha
  rw [pmE_ref hs h7 (by omega)] at he
  have hcl : (nI j).toNatClampNeg = j := nI_clamp (by omega)
  have hin : vp_in (nI j) N := vp_in_nI hj hN
  obtain ⟨ty, hty, hrf⟩ : ∃ ty, (pmTys cy)[k - 5]? = some (cy k, ty) ∧ ty.isReference = true := by
    rcases (show k = 7 ∨ k = 8 ∨ k = 9 ∨ k = 10 by omega) with rfl | rfl | rfl | rfl <;> exact ⟨_, rfl, rfl⟩
  have hf : (fun j => (M.2.1 a j).map L) j = some (L b) := by show (M.2.1 a j).map L = _; rw [hr]; rfl
  exact W.aald (v := .ref (L b)) (ty := ty) X.1 X.2.1 (hP a _ he) ((X.2.2.2.2.2.2.2.2.2.2.1.1.2 _ _ hty).1 N (fun j => va_rf ((M.2.1 a j).map L))) hrf (fun q => by cases q) (by show ¬ (nI j < 0 ∨ (arrV _ _ _).slots.size ≤ _); rw [arrV_size]; exact hin) (by show (arrV _ _ _).slots[_]? = _; rw [hcl, arrV_read _ _ hj]; show some (va_rf ((M.2.1 a j).map L)) = _; rw [hr]; rfl) rfl rfl hd (kk p e s m args below meth c D cy L A H locs ls X hl hP hS)
theorem e_aast {a N j k b ci NB : Nat} {i : Int32} (hd : decode K.2.1 pc = .ok (.aastore, 1)) (hp : pc + 1 = pc') (hs : psh a = (k, N)) (h7 : (k = 7 ∧ ci = 0) ∨ (k = 8 ∧ ci = 1) ∨ (k = 9 ∧ ci = 2)) (ha : a < n) (hi : i = nI j) (hj : j < N) (hsb : psh b = (ci, NB)) (hb : b < n) (kk : Ev l K G R n u w pc' lo st (M.1, pm2 M.2.1 a j (some b), M.2.2)) : Ev l K G R n u w pc lo (.ref b :: .int i :: .ref a :: st) M := by
  subst hp
  subst hi
  refine fun p e s m args below meth c D cy L A H locs ls X hl hP hS => ?_
  have hb0 := pm_len31 a
  rw [hs] at hb0
  have hN : N < 2 ^ 31 := hb0
  have he := pmWl_get (cy := cy) (L := L) (M := M) ha
  rw [pmE_ref hs (by omega) (by omega)] at he
  have heb := pmWl_get (cy := cy) (L := L) (M := M) hb
  rw [pmE_obj hsb (by omega)] at heb
  have hD := pmWl_D (cy := cy) (M := M) X.2.2.2.2.2.2.2.2.2.2.2.2.2.1 X.2.2.2.2.2.2.2.2.2.2.2.2.2.2
  have hcl : (nI j).toNatClampNeg = j := nI_clamp (by omega)
  obtain ⟨r, hr1, hr2⟩ : ∃ r : vw_C, pmCl[ci]? = some r ∧ (pmTys cy)[k - 5]? = some (cy k, .object r.1) := by
    rcases h7 with ⟨rfl, rfl⟩ | ⟨rfl, rfl⟩ | ⟨rfl, rfl⟩ <;> exact ⟨_, rfl, rfl⟩
  refine va_astq X.1 X.2.1 X.2.2.2.2.2.2.2.2.2.2.1.1 hP hD hS a (k - 5) b ci he hr2 heb hr1 (vp_in_nI hj hN) hd (fun H1 locs1 hP1 _ hS1 => ?_)
  rw [hcl, ← pm2_selfR] at hP1
  have hW : (pmWl cy L M n).set a (L a, .inl (cy k, N, .inr (.inr (.inr (.inr (fun q => (pm2 M.2.1 a j (some b) a q).map L)))))) = pmWl cy L (M.1, pm2 M.2.1 a j (some b), M.2.2) n :=
    pmWl_set (by rw [pmE_ref hs (by omega) (by omega)]) (fun q _ hq => pmE_congr rfl (pm2_ne hq) rfl rfl)
  exact kk p e s m args below meth c D cy L A H1 locs1 ls X hl (hW ▸ hP1) hS1
theorem e_lald {a N j : Nat} {i : Int32} (hd : decode K.2.1 pc = .ok (.laload, 1)) (hp : pc + 1 = pc') (hs : psh a = (11, N)) (ha : a < n) (hi : i = nI j) (hj : j < N) (kk : Ev l K G R n u w pc' lo (.long (M.2.2.1 a j) :: st) M) : Ev l K G R n u w pc lo (.int i :: .ref a :: st) M := by
  subst hp
  subst hi
  refine fun p e s m args below meth c D cy L A H locs ls X hl hP hS => ?_
  have hb := pm_len31 a
  rw [hs] at hb
  have he := pmWl_get (cy := cy) (L := L) (M := M) ha
  rw [pmE_long hs] at he
  refine va_lald X.1 X.2.1 X.2.2.2.2.2.2.2.2.2.2.1.1 hP a 6 he rfl (vp_in_nI hj (by show N < _; omega)) hd ?_
  rw [nI_clamp (show j < 2 ^ 31 by have : N < 2 ^ 31 := hb; omega)]
  exact kk p e s m args below meth c D cy L A H locs ls X hl hP hS
theorem e_last {a N j : Nat} {i : Int32} {x : Int64} (hd : decode K.2.1 pc = .ok (.lastore, 1)) (hp : pc + 1 = pc') (hs : psh a = (11, N)) (ha : a < n) (hi : i = nI j) (hj : j < N) (kk : Ev l K G R n u w pc' lo st (M.1, M.2.1, pm2 M.2.2.1 a j x, M.2.2.2)) : Ev l K G R n u w pc lo (.long x :: .int i :: .ref a :: st) M := by
  subst hp
  subst hi
  refine fun p e s m args below meth c D cy L A H locs ls X hl hP hS => ?_
  have hb := pm_len31 a
  rw [hs] at hb
  have he := pmWl_get (cy := cy) (L := L) (M := M) ha
  rw [pmE_long hs] at he
  have hD := pmWl_D (cy := cy) (M := M) X.2.2.2.2.2.2.2.2.2.2.2.2.2.1 X.2.2.2.2.2.2.2.2.2.2.2.2.2.2
  refine va_last X.1 X.2.1 X.2.2.2.2.2.2.2.2.2.2.1.1 hP hD hS a 6 he rfl (vp_in_nI hj (by show N < _; omega)) hd (fun H1 locs1 hP1 _ hS1 => ?_)
  rw [nI_clamp (show j < 2 ^ 31 by have : N < 2 ^ 31 := hb; omega)] at hP1
  have hW : (pmWl cy L M n).set a (L a, .inl (cy 11, N, .inr (.inl (vp_updL (M.2.2.1 a) j x)))) = pmWl cy L (M.1, M.2.1, pm2 M.2.2.1 a j x, M.2.2.2) n :=
    pmWl_set (by rw [pmE_long hs]; show _ = Sum.inl (cy 11, N, Sum.inr (Sum.inl (pm2 M.2.2.1 a j x a))); rw [pm2_selfL]) (fun q _ hq => pmE_congr rfl rfl (pm2_ne hq) rfl)
  exact kk p e s m args below meth c D cy L A H1 locs1 ls X hl (hW ▸ hP1) hS1
theorem e_dald {a N j : Nat} {i : Int32} (hd : decode K.2.1 pc = .ok (.daload, 1)) (hp : pc + 1 = pc') (hs : psh a = (12, N)) (ha : a < n) (hi : i = nI j) (hj : j < N) (kk : Ev l K G R n u w pc' lo (.double (M.2.2.2 a j) :: st) M) : Ev l K G R n u w pc lo (.int i :: .ref a :: st) M := by
  subst hp
  subst hi
  refine fun p e s m args below meth c D cy L A H locs ls X hl hP hS => ?_
  have hb := pm_len31 a
  rw [hs] at hb
  have he := pmWl_get (cy := cy) (L := L) (M := M) ha
  rw [pmE_double hs] at he
  refine va_dald X.1 X.2.1 X.2.2.2.2.2.2.2.2.2.2.1.1 hP a 7 he rfl (vp_in_nI hj (by show N < _; omega)) hd ?_
  rw [nI_clamp (show j < 2 ^ 31 by have : N < 2 ^ 31 := hb; omega)]
  exact kk p e s m args below meth c D cy L A H locs ls X hl hP hS
theorem e_dast {a N j : Nat} {i : Int32} {x : UInt64} (hd : decode K.2.1 pc = .ok (.dastore, 1)) (hp : pc + 1 = pc') (hs : psh a = (12, N)) (ha : a < n) (hi : i = nI j) (hj : j < N) (kk : Ev l K G R n u w pc' lo st (M.1, M.2.1, M.2.2.1, pm2 M.2.2.2 a j x)) : Ev l K G R n u w pc lo (.double x :: .int i :: .ref a :: st) M := by
  subst hp
  subst hi
  refine fun p e s m args below meth c D cy L A H locs ls X hl hP hS => ?_
  have hb := pm_len31 a
  rw [hs] at hb
  have he := pmWl_get (cy := cy) (L := L) (M := M) ha
  rw [pmE_double hs] at he
  have hD := pmWl_D (cy := cy) (M := M) X.2.2.2.2.2.2.2.2.2.2.2.2.2.1 X.2.2.2.2.2.2.2.2.2.2.2.2.2.2
  refine va_dast X.1 X.2.1 X.2.2.2.2.2.2.2.2.2.2.1.1 hP hD hS a 7 he rfl (vp_in_nI hj (by show N < _; omega)) hd (fun H1 locs1 hP1 _ hS1 => ?_)
  rw [nI_clamp (show j < 2 ^ 31 by have : N < 2 ^ 31 := hb; omega)] at hP1
  have hW : (pmWl cy L M n).set a (L a, .inl (cy 12, N, .inr (.inr (.inr (.inl (vf_upd (M.2.2.2 a) j x)))))) = pmWl cy L (M.1, M.2.1, M.2.2.1, pm2 M.2.2.2 a j x) n :=
    pmWl_set (by rw [pmE_double hs]; show _ = Sum.inl (cy 12, N, Sum.inr (Sum.inr (Sum.inr (Sum.inl (pm2 M.2.2.2 a j x a))))); rw [pm2_selfD]) (fun q _ hq => pmE_congr rfl rfl rfl (pm2_ne hq))
  exact kk p e s m args below meth c D cy L A H1 locs1 ls X hl (hW ▸ hP1) hS1
theorem e_alen {a N k : Nat} {v : Int32} (hd : decode K.2.1 pc = .ok (.arraylength, 1)) (hp : pc + 1 = pc') (hs : psh a = (k, N)) (hk : 5 ≤ k ∧ k ≤ 12) (ha : a < n) (hv : nI N = v) (kk : Ev l K G R n u w pc' lo (.int v :: st) M) : Ev l K G R n u w pc lo (.ref a :: st) M := by
  subst hp
  refine fun p e s m args below meth c D cy L A H locs ls X hl hP hS => ?_
  have he := pmWl_get (cy := cy) (L := L) (M := M) ha
  have hE : pmE cy L M a = .inl (cy k, N, pmAr L M a) := by
    unfold pmE
    rw [hs, if_neg (by show ¬ k < 5; omega)]
  rw [hE] at he
  obtain ⟨ty, hty⟩ : ∃ ty, (pmTys cy)[k - 5]? = some (cy k, ty) := by
    rcases (show k = 5 ∨ k = 6 ∨ k = 7 ∨ k = 8 ∨ k = 9 ∨ k = 10 ∨ k = 11 ∨ k = 12 by omega) with rfl | rfl | rfl | rfl | rfl | rfl | rfl | rfl <;> exact ⟨_, rfl⟩
  exact va_alen X.1 X.2.1 X.2.2.2.2.2.2.2.2.2.2.1.1 hP a (k - 5) he hty hv hd (kk p e s m args below meth c D cy L A H locs ls X hl hP hS)

end EVR
end
section
/-! ===== calls, returns, throws ===== -/
theorem nw_use {w : Cond} {A : Array Value} {U : State} (hw : w ∈ nw) (h : va_Nw w U) : w.before A U = true := by
  have hn := (List.mem_filter.mp hw).2
  cases w <;> first | exact Bool.noConfusion (show false = true from hn) | exact va_Nw.use rfl h
theorem pm_met {l : Launch} {y : MethodName} {ws : List Cond} {rm : Room} {Pc : Array Value → State → Prop} {Qc : Array Value → State → Outcome → State → Prop} {XC : String → State → State → Prop} {mc ms : Nat} {free : Addr → Prop} (h : vx_Met l y ws rm Pc Qc XC mc ms free) (hx : ∀ E st t, ¬ XC E st t) : Met l y ws rm Pc Qc mc ms free := by
  intro p e ha hc hk s m args below hf happ hP hK
  obtain ⟨n, o, h1, h2, h3, h4⟩ := h p e ha hc hk s m args below hf happ hP hK
  refine ⟨n, o, h1, h2, h3, ?_⟩
  rcases h4 with h4 | ⟨q, -, E, ce, L, hx', -⟩
  · exact h4
  · exact absurd hx' (hx _ _ _)
theorem wU_good {K2 : pmKey} (h : Cond.code K2.1 K2.2.1 K2.2.2.1 K2.2.2.2.1 ∈ gw) : GoodIn gw (wU K2) := fun w hw => by
  rcases List.mem_cons.mp hw with rfl | hw
  · exact ⟨h, gw_good h⟩
  · exact ⟨hw, gw_good hw⟩
theorem wH_good {K2 : pmKey} (h : Cond.codeWith K2.1 K2.2.1 K2.2.2.1 K2.2.2.2.1 K2.2.2.2.2 ∈ gw) : GoodIn gw (wH K2) := fun w hw => by
  rcases List.mem_cons.mp hw with rfl | hw
  · exact ⟨h, gw_good h⟩
  · exact ⟨hw, gw_good hw⟩
section PMC
variable {p : Program} {l : Launch} {e : Env} {R : Room} {s : State} {m : MethodId} {args : Array Value} {below : List Frame} {meth : Method} {c : Code} {H : Heap} {locs : List Loc} {u w : Nat} {Q : State → Prop}
variable {pc : Nat} {ls : Array Slot} {st0 rest : List Value} {a : Array Value} {A : Nat → Prop} {D : va_G} {cy : Nat → ClassId} {L : Nat → Nat} {n : Nat} {res : pmRes} {M M' : pmM} {mc ms : Nat} {K : pmKey}
theorem pm_blind {vs : List Value} : FrameBlind (pmPc vs n M D cy L A) := fun a U g mk q => by
  obtain ⟨h1, h2, h3, h4, h5, h6, h7⟩ := q
  exact ⟨h1, pmK.warm (s := U) (U := U.calling g mk a) (State.WarmedH.refl U) h2, ⟨vx_Zq.moved (u := U) (U := U.calling g mk a) (Vm.Alike.refl _) h3.1, vx_Zq.moved (u := U) (U := U.calling g mk a) (Vm.Alike.refl _) h3.2⟩, h4, h5, h6, h7⟩
theorem pm_pre (X : pmX l K n p s m args meth c D cy L A) (hP : va_P D pmCl (pmWl cy L M n) H) (hS : va_S A s.heap H locs) (vs : List Value) (U : State) (hU : U.heap = H) (hW : s.WarmedH U.vm) : pmPc vs n M D cy L A (vs.map (pmV L)).toArray U := by
  obtain ⟨-, -, -, -, -, -, -, -, -, -, hK, hZ, hA, hi, hAi⟩ := X
  refine ⟨rfl, pmK.warm hW hK, ⟨?_, ?_⟩, fun q hq => hA q (Nat.le_trans hS.1 (by rw [hU] at hq; exact hq)), hi, hAi, by rw [hU]; exact hP⟩
  · rw [hU]; exact (hZ.1.kept hS.2.1).moved hW.alike
  · rw [hU]; exact (hZ.2.kept hS.2.1).moved hW.alike
theorem pm_run (hr : vx_Run p l e R s m args below meth c H locs u w mc ms (F0 m pc ls st0) rest (pmQ n res M' D cy L A a) (pmXr n res M' D cy L A) A) (hS : va_S A s.heap H locs)
    (kv : ∀ (v : Option Value) (H1 : Heap) (locs1 : List Loc), res = .inl v → va_P D pmCl (pmWl cy L M' n) H1 → va_S A s.heap H1 locs1 → W p l e R s m args below meth c H1 locs1 (u + mc) (w + ms) Q (F0 m (pc + 3) ls ((v.map (pmV L)).toList ++ rest)))
    (kx : ∀ (E : String) (H1 : Heap) (locs1 : List Loc) (ce : Cell) (q9 : Addr), res = .inr E → va_P D pmCl (pmWl cy L M' n) H1 → va_S A s.heap H1 locs1 → H1[q9]? = some ce → ce.vm = .none → s.vm.findClass E = some ce.cls → vx_W p l e R s m args below meth c H1 locs1 (u + mc) (w + ms) Q (F0 m pc ls rest) q9) :
    W p l e R s m args below meth c H locs u w Q (F0 m pc ls st0) := by
  intro T hT X
  rcases hr T hT X with ⟨v, st₀, t, T', L', h0, X', hL, e1, e2, ⟨⟨v', hv1, hv2⟩, hP1, hF⟩, st⟩ | ⟨q, st₀, t, T', L', E, ce, h0, X', hL, e1, e2, ⟨hres, hP1, hF⟩, hce, hcv, hcl, st⟩
  · obtain ⟨k1, k2, k3⟩ := vx_keep h0 e1 hS (fun _ _ h => h) (fun _ h => h) hL hF
    have hv3 : v = v'.map (pmV L) := Outcome.returned.inj hv2
    subst hv3
    obtain ⟨t2, a1, b1⟩ := kv v' T'.heap (locs ++ L') hv1 (by rw [e1]; exact hP1) k3 T' rfl X'
    exact ⟨t2, st t2 a1, b1⟩
  · obtain ⟨k1, k2, k3⟩ := vx_keep h0 e1 hS (fun _ _ h => h) (fun _ h => h) hL hF
    obtain ⟨t2, a1, b1⟩ := kx E T'.heap (locs ++ L') ce q hres (by rw [e1]; exact hP1) k3 (by rw [e1]; exact hce) hcv hcl T' rfl X'
    exact ⟨t2, st.trans a1, b1⟩
theorem pm_runN (hr : va_Run p l e R s m args below meth c H locs u w mc ms (F0 m pc ls st0) rest (pmQ n res M' D cy L A a) A) (hS : va_S A s.heap H locs)
    (kv : ∀ (v : Option Value) (H1 : Heap) (locs1 : List Loc), res = .inl v → va_P D pmCl (pmWl cy L M' n) H1 → va_S A s.heap H1 locs1 → W p l e R s m args below meth c H1 locs1 (u + mc) (w + ms) Q (F0 m (pc + 3) ls ((v.map (pmV L)).toList ++ rest))) :
    W p l e R s m args below meth c H locs u w Q (F0 m pc ls st0) := by
  intro T hT X
  obtain ⟨v, st₀, t, T', L', h0, X', hL, e1, e2, ⟨⟨v', hv1, hv2⟩, hP1, hF⟩, st⟩ := hr T hT X
  obtain ⟨k1, k2, k3⟩ := vx_keep h0 e1 hS (fun _ _ h => h) (fun _ h => h) hL hF
  have hv3 : v = v'.map (pmV L) := Outcome.returned.inj hv2
  subst hv3
  obtain ⟨t2, a1, b1⟩ := kv v' T'.heap (locs ++ L') hv1 (by rw [e1]; exact hP1) k3 T' rfl X'
  exact ⟨t2, st t2 a1, b1⟩
end PMC
/-- the words of a call -/
abbrev pmMh (y : MethodName) (k : Nat) : Prop := y.cls ≠ "java/lang/invoke/MethodHandle" ∧ y.cls ≠ "java/lang/invoke/VarHandle" ∧ (parseMethodDescriptor y.desc).map (fun d => d.parameters.length) = some k
def pmCs (own : String) (idx : Nat) (K2 : pmKey) (k : Nat) : Prop := Cond.methodLink own idx K2.1 ∈ gw ∧ Cond.static K2.1 ∈ gw ∧ Cond.initialized K2.1.cls ∈ gw ∧ Cond.code K2.1 K2.2.1 K2.2.2.1 K2.2.2.2.1 ∈ gw ∧ pmMh K2.1 k
def pmCsN (own : String) (idx : Nat) (K2 : pmKey) (k : Nat) : Prop := (∃ host, Cond.methodLinkNest own idx K2.1 host ∈ nw) ∧ Cond.static K2.1 ∈ gw ∧ Cond.initialized K2.1.cls ∈ gw ∧ Cond.code K2.1 K2.2.1 K2.2.2.1 K2.2.2.2.1 ∈ gw ∧ pmMh K2.1 k
def pmCw (own : String) (idx : Nat) (K2 : pmKey) (k : Nat) : Prop := Cond.methodLink own idx K2.1 ∈ gw ∧ Cond.static K2.1 ∈ gw ∧ Cond.initialized K2.1.cls ∈ gw ∧ Cond.codeWith K2.1 K2.2.1 K2.2.2.1 K2.2.2.2.1 K2.2.2.2.2 ∈ gw ∧ pmMh K2.1 k
def pmCv (own : String) (idx : Nat) (K2 : pmKey) (k ci : Nat) : Prop := Cond.methodLink own idx K2.1 ∈ gw ∧ Cond.instanceMethod K2.1 ∈ gw ∧ Cond.selects K2.1.cls K2.1 K2.1 ∈ gw ∧ Cond.initialized K2.1.cls ∈ gw ∧ Cond.code K2.1 K2.2.1 K2.2.2.1 K2.2.2.2.1 ∈ gw ∧ pmMh K2.1 k ∧ ∃ (T : u_T) (N : Nat), pmCl[ci]? = some (K2.1.cls, T, N)
def pmCn (own : String) (idx : Nat) (K2 : pmKey) (k ci : Nat) : Prop := (∃ host, Cond.methodLinkNest own idx K2.1 host ∈ nw) ∧ Cond.instanceMethod K2.1 ∈ gw ∧ Cond.selects K2.1.cls K2.1 K2.1 ∈ gw ∧ Cond.initialized K2.1.cls ∈ gw ∧ Cond.code K2.1 K2.2.1 K2.2.2.1 K2.2.2.2.1 ∈ gw ∧ pmMh K2.1 k ∧ ∃ (T : u_T) (N : Nat), pmCl[ci]? = some (K2.1.cls, T, N)
/-- a throw's words -/
def pmTh (own : String) (ik is ic : Nat) (E : String) : Prop := ∃ (names : List String) (text : String), Bundle.fit E = true ∧ (∀ n ∈ names, Bundle.fit n = true) ∧ names.length ≤ 3 ∧ Cond.classLink own ik E ∈ gw ∧ Cond.initialized E ∈ gw ∧ Cond.stringRef own is text ∈ sw ∧ (∀ w ∈ vx_atS own ic E names, w ∈ gw ∨ w ∈ nw) ∧ ∀ w ∈ Cond.classLink own ik E :: Cond.initialized E :: vx_atS own ic E names, vx_ot w = true
section EVC
variable {l : Launch} {K K2 : pmKey} {G : pmG} {R : Room} {n u w pc pc' u' w' d2 mc2 ms2 k idx : Nat} {lo : List (Option Value)} {st st0 vs : List Value} {M M' : pmM} {v : Option Value} {E : String}
theorem pm_rest (L : Nat → Nat) {st : List Value} (h : (st.map fun v => v.category).sum ≤ 8) : ((st.map (pmV L)).map fun v => v.category).sum ≤ 8 := by
  rw [List.map_map, show ((fun v => Value.category v) ∘ pmV L) = (fun v => Value.category v) from funext fun v => pmV_cat L v]
  exact h
theorem pm_vst (L : Nat → Nat) (v : Option Value) (st : List Value) : (v.map (pmV L)).toList ++ st.map (pmV L) = (v.toList ++ st).map (pmV L) := by cases v <;> rfl
theorem pm_stk (L : Nat → Nat) (vs st : List Value) : (vs.reverse ++ st).map (pmV L) = (vs.map (pmV L)).reverse ++ st.map (pmV L) := by rw [List.map_append, List.map_reverse]
theorem e_callS (hd : decode K.2.1 pc = .ok (.invokestatic idx, 3)) (hp : pc + 3 = pc') (hk : pmCs K.1.cls idx K2 k) (hS2 : Sp l K2 n d2 mc2 ms2 vs M (.inl v) M') (hn : vs.length = k) (hst : st0 = vs.reverse ++ st)
    (hR : 10 * d2 + 1 ≤ R.frames ∧ 8 + (K2.2.2.1 + 11) + 128 * d2 ≤ R.locals) (hc : u + mc2 ≤ R.cells ∧ w + ms2 ≤ R.slots) (hu : u + mc2 = u') (hw : w + ms2 = w') (hr : (st.map fun v => v.category).sum ≤ 8)
    (kk : Ev l K G R n u' w' pc' lo (v.toList ++ st) M') : Ev l K G R n u w pc lo st0 M := by
  subst hp; subst hst; subst hu; subst hw
  refine fun p e s m args below meth c D cy L A H locs ls X hl hP hS => ?_
  obtain ⟨k1, k2, k3, k4, k5⟩ := hk
  have hts := X.2.2.2.2.1
  rw [pm_stk]
  refine pm_run (vx_runS (As := vs.map (pmV L)) (rest := st.map (pmV L)) ⟨X.1, X.2.1, X.2.2.1, X.2.2.2.1, hts⟩ (hS2 D cy L A) ⟨callB_of k hts (wU_good k4) rfl rfl rfl (hts _ k3) (hts _ k1) k5 hR, hts _ k2⟩ ⟨pm_blind, pm_pre X hP hS vs⟩ rfl (by rw [List.length_map]; exact hn) hl.1 rfl (lv_room (pm_rest L hr)) hd hc) hS (fun v' H1 locs1 hv hP1 hS1 => ?_) (fun E' H1 locs1 ce q9 hE _ _ _ _ _ => by cases hE)
  cases hv
  rw [pm_vst]
  exact kk p e s m args below meth c D cy L A H1 locs1 ls X hl hP1 hS1
theorem e_callS_x {mcR msR : Nat} (hd : decode K.2.1 pc = .ok (.invokestatic idx, 3)) (hk : pmCs K.1.cls idx K2 k) (hS2 : Sp l K2 n d2 mc2 ms2 vs M (.inr E) M') (hn : vs.length = k) (hst : st0 = vs.reverse ++ st)
    (hR : 10 * d2 + 1 ≤ R.frames ∧ 8 + (K2.2.2.1 + 11) + 128 * d2 ≤ R.locals) (hc : u + mc2 ≤ R.cells ∧ w + ms2 ≤ R.slots) (hr : (st.map fun v => v.category).sum ≤ 8) (htab : K.2.2.2.2 = []) (hm : u + mc2 ≤ mcR ∧ w + ms2 ≤ msR) :
    Ev l K (gM n mcR msR (.inr E) M') R n u w pc lo st0 M := by
  subst hst
  refine fun p e s m args below meth c D cy L A H locs ls X hl hP hS => ?_
  obtain ⟨k1, k2, k3, k4, k5⟩ := hk
  have hts := X.2.2.2.2.1
  rw [pm_stk]
  refine pm_run (vx_runS (As := vs.map (pmV L)) (rest := st.map (pmV L)) ⟨X.1, X.2.1, X.2.2.1, X.2.2.2.1, hts⟩ (hS2 D cy L A) ⟨callB_of k hts (wU_good k4) rfl rfl rfl (hts _ k3) (hts _ k1) k5 hR, hts _ k2⟩ ⟨pm_blind, pm_pre X hP hS vs⟩ rfl (by rw [List.length_map]; exact hn) hl.1 rfl (lv_room (pm_rest L hr)) hd hc) hS (fun v' H1 locs1 hv hP1 hS1 => by cases hv) (fun E' H1 locs1 ce q9 hE hP1 hS1 g1 g2 g3 => ?_)
  cases hE
  have ht : c.exceptionTable.toList = [] := by rw [X.2.2.2.2.2.2.2.1, htab]; rfl
  exact vx_out (by rw [ht]; exact fun x hx => nomatch hx) X.2.2.2.2.2.1 g1 g2 g3 (fun t ht _ => ⟨rfl, by rw [ht]; exact hP1, hS1.F ht⟩) hS1.2.2 hm.1 hm.2
theorem e_callV {a ci N : Nat} (hd : decode K.2.1 pc = .ok (.invokevirtual idx, 3)) (hp : pc + 3 = pc') (hk : pmCv K.1.cls idx K2 k ci) (hS2 : Sp l K2 n d2 mc2 ms2 (.ref a :: vs) M (.inl v) M') (hn : vs.length = k) (hst : st0 = vs.reverse ++ .ref a :: st) (hs : psh a = (ci, N)) (hci : ci < 5) (ha : a < n)
    (hR : 10 * d2 + 1 ≤ R.frames ∧ 8 + (K2.2.2.1 + 11) + 128 * d2 ≤ R.locals) (hc : u + mc2 ≤ R.cells ∧ w + ms2 ≤ R.slots) (hu : u + mc2 = u') (hw : w + ms2 = w') (hr : (st.map fun v => v.category).sum ≤ 8)
    (kk : Ev l K G R n u' w' pc' lo (v.toList ++ st) M') : Ev l K G R n u w pc lo st0 M := by
  subst hp; subst hst; subst hu; subst hw
  refine fun p e s m args below meth c D cy L A H locs ls X hl hP hS => ?_
  obtain ⟨k1, k2, k3, k4, k5, k6, T, N2, k7⟩ := hk
  have hts := X.2.2.2.2.1
  rw [pm_stk]
  have he := pmWl_get (cy := cy) (L := L) (M := M) ha
  rw [pmE_obj hs hci] at he
  refine pm_run (vx_runV (As := vs.map (pmV L)) (rest := st.map (pmV L)) ⟨X.1, X.2.1, X.2.2.1, X.2.2.2.1, hts⟩ (hS2 D cy L A) ⟨callB_of k hts (wU_good k5) rfl rfl rfl (hts _ k4) (hts _ k1) k6 hR, hts _ k2, hts _ k3⟩ ⟨pm_blind, va_recv X.2.2.2.2.2.2.2.2.2.2.1.1 hP k7 he, pm_pre X hP hS (.ref a :: vs)⟩ rfl (by rw [List.length_map]; exact hn) hl.1 rfl (lv_room (pm_rest L hr)) hd hc) hS (fun v' H1 locs1 hv hP1 hS1 => ?_) (fun E' H1 locs1 ce q9 hE _ _ _ _ _ => by cases hE)
  cases hv
  rw [pm_vst]
  exact kk p e s m args below meth c D cy L A H1 locs1 ls X hl hP1 hS1
theorem e_callV_x {a ci N mcR msR : Nat} (hd : decode K.2.1 pc = .ok (.invokevirtual idx, 3)) (hk : pmCv K.1.cls idx K2 k ci) (hS2 : Sp l K2 n d2 mc2 ms2 (.ref a :: vs) M (.inr E) M') (hn : vs.length = k) (hst : st0 = vs.reverse ++ .ref a :: st) (hs : psh a = (ci, N)) (hci : ci < 5) (ha : a < n)
    (hR : 10 * d2 + 1 ≤ R.frames ∧ 8 + (K2.2.2.1 + 11) + 128 * d2 ≤ R.locals) (hc : u + mc2 ≤ R.cells ∧ w + ms2 ≤ R.slots) (hr : (st.map fun v => v.category).sum ≤ 8) (htab : K.2.2.2.2 = []) (hm : u + mc2 ≤ mcR ∧ w + ms2 ≤ msR) :
    Ev l K (gM n mcR msR (.inr E) M') R n u w pc lo st0 M := by
  subst hst
  refine fun p e s m args below meth c D cy L A H locs ls X hl hP hS => ?_
  obtain ⟨k1, k2, k3, k4, k5, k6, T, N2, k7⟩ := hk
  have hts := X.2.2.2.2.1
  rw [pm_stk]
  have he := pmWl_get (cy := cy) (L := L) (M := M) ha
  rw [pmE_obj hs hci] at he
  refine pm_run (vx_runV (As := vs.map (pmV L)) (rest := st.map (pmV L)) ⟨X.1, X.2.1, X.2.2.1, X.2.2.2.1, hts⟩ (hS2 D cy L A) ⟨callB_of k hts (wU_good k5) rfl rfl rfl (hts _ k4) (hts _ k1) k6 hR, hts _ k2, hts _ k3⟩ ⟨pm_blind, va_recv X.2.2.2.2.2.2.2.2.2.2.1.1 hP k7 he, pm_pre X hP hS (.ref a :: vs)⟩ rfl (by rw [List.length_map]; exact hn) hl.1 rfl (lv_room (pm_rest L hr)) hd hc) hS (fun v' H1 locs1 hv hP1 hS1 => by cases hv) (fun E' H1 locs1 ce q9 hE hP1 hS1 g1 g2 g3 => ?_)
  cases hE
  have ht : c.exceptionTable.toList = [] := by rw [X.2.2.2.2.2.2.2.1, htab]; rfl
  exact vx_out (by rw [ht]; exact fun x hx => nomatch hx) X.2.2.2.2.2.1 g1 g2 g3 (fun t ht _ => ⟨rfl, by rw [ht]; exact hP1, hS1.F ht⟩) hS1.2.2 hm.1 hm.2
theorem e_callN {a ci N : Nat} (hd : decode K.2.1 pc = .ok (.invokevirtual idx, 3)) (hp : pc + 3 = pc') (hk : pmCn K.1.cls idx K2 k ci) (hS2 : Sp l K2 n d2 mc2 ms2 (.ref a :: vs) M (.inl v) M') (hn : vs.length = k) (hst : st0 = vs.reverse ++ .ref a :: st) (hs : psh a = (ci, N)) (hci : ci < 5) (ha : a < n)
    (hR : 10 * d2 + 1 ≤ R.frames ∧ 8 + (K2.2.2.1 + 11) + 128 * d2 ≤ R.locals) (hc : u + mc2 ≤ R.cells ∧ w + ms2 ≤ R.slots) (hu : u + mc2 = u') (hw : w + ms2 = w') (hr : (st.map fun v => v.category).sum ≤ 8)
    (kk : Ev l K G R n u' w' pc' lo (v.toList ++ st) M') : Ev l K G R n u w pc lo st0 M := by
  subst hp; subst hst; subst hu; subst hw
  refine fun p e s m args below meth c D cy L A H locs ls X hl hP hS => ?_
  obtain ⟨⟨host, k1⟩, k2, k3, k4, k5, k6, T, N2, k7⟩ := hk
  have hts := X.2.2.2.2.1
  rw [pm_stk]
  have he := pmWl_get (cy := cy) (L := L) (M := M) ha
  rw [pmE_obj hs hci] at he
  refine pm_runN (va_runVN (As := vs.map (pmV L)) (rest := st.map (pmV L)) ⟨X.1, X.2.1, X.2.2.1, X.2.2.2.1, hts⟩ (pm_met (hS2 D cy L A) (fun E st t h => by cases h.1)) ⟨va_cnB k hts (wU_good k5) rfl rfl rfl (X.2.2.2.2.2.2.2.2.2.2.1.2.1 _ k1) (hts _ k4) k6 hR, hts _ k2, hts _ k3⟩ ⟨pm_blind, va_recv X.2.2.2.2.2.2.2.2.2.2.1.1 hP k7 he, pm_pre X hP hS (.ref a :: vs)⟩ rfl (by rw [List.length_map]; exact hn) hl.1 rfl (lv_room (pm_rest L hr)) hd hc) hS (fun v' H1 locs1 hv hP1 hS1 => ?_)
  cases hv
  rw [pm_vst]
  exact kk p e s m args below meth c D cy L A H1 locs1 ls X hl hP1 hS1
theorem e_callSN (hd : decode K.2.1 pc = .ok (.invokestatic idx, 3)) (hp : pc + 3 = pc') (hk : pmCsN K.1.cls idx K2 k) (hS2 : Sp l K2 n d2 mc2 ms2 vs M (.inl v) M') (hn : vs.length = k) (hst : st0 = vs.reverse ++ st)
    (hR : 10 * d2 + 1 ≤ R.frames ∧ 8 + (K2.2.2.1 + 11) + 128 * d2 ≤ R.locals) (hc : u + mc2 ≤ R.cells ∧ w + ms2 ≤ R.slots) (hu : u + mc2 = u') (hw : w + ms2 = w') (hr : (st.map fun v => v.category).sum ≤ 8)
    (kk : Ev l K G R n u' w' pc' lo (v.toList ++ st) M') : Ev l K G R n u w pc lo st0 M := by
  subst hp; subst hst; subst hu; subst hw
  refine fun p e s m args below meth c D cy L A H locs ls X hl hP hS => ?_
  obtain ⟨⟨host, k1⟩, k2, k3, k4, k5⟩ := hk
  have hts := X.2.2.2.2.1
  rw [pm_stk]
  refine pm_runN (va_runSN (As := vs.map (pmV L)) (rest := st.map (pmV L)) ⟨X.1, X.2.1, X.2.2.1, X.2.2.2.1, hts⟩ (pm_met (hS2 D cy L A) (fun E st t h => by cases h.1)) ⟨va_cnB k hts (wU_good k4) rfl rfl rfl (X.2.2.2.2.2.2.2.2.2.2.1.2.1 _ k1) (hts _ k3) k5 hR, hts _ k2, trivial⟩ ⟨pm_blind, pm_pre X hP hS vs⟩ rfl (by rw [List.length_map]; exact hn) hl.1 rfl (lv_room (pm_rest L hr)) hd hc) hS (fun v' H1 locs1 hv hP1 hS1 => ?_)
  cases hv
  rw [pm_vst]
  exact kk p e s m args below meth c D cy L A H1 locs1 ls X hl hP1 hS1
/-! ends -/
theorem e_iret {ty : FieldType} {x r : Int32} {mc ms : Nat} (hd : decode K.2.1 pc = .ok (.ireturn, 1)) (hr : K.2.2.2.1 = some ty) (hn : narrow ty (.int x) = .int x) (hu : u ≤ mc) (hw : w ≤ ms) (hx : x = r) (hM : M = M') : Ev l K (gM n mc ms (.inl (some (.int r))) M') R n u w pc lo [.int x] M := by
  subst hx; subst hM
  exact fun p e s m args below meth c D cy L A H locs ls X hl hP hS => W.widen hu hw (vx_ret (W.zret X.1 X.2.1 (X.2.2.2.2.2.2.1.trans hr) hn (fun t ht hW => ⟨⟨_, rfl, rfl⟩, by rw [ht]; exact hP, hS.F ht⟩) hS.2.2 hd X.2.2.2.2.2.1))
theorem e_vret {mc ms : Nat} (hd : decode K.2.1 pc = .ok (.return_, 1)) (hr : K.2.2.2.1 = none) (hu : u ≤ mc) (hw : w ≤ ms) (hM : M = M') : Ev l K (gM n mc ms (.inl none) M') R n u w pc lo [] M := by
  subst hM
  exact fun p e s m args below meth c D cy L A H locs ls X hl hP hS => W.widen hu hw (vx_ret (W.vret X.1 X.2.1 (X.2.2.2.2.2.2.1.trans hr) (fun t ht hW => ⟨⟨_, rfl, rfl⟩, by rw [ht]; exact hP, hS.F ht⟩) hS.2.2 hd X.2.2.2.2.2.1))
theorem e_fret {x r : UInt32} {mc ms : Nat} (hd : decode K.2.1 pc = .ok (.freturn, 1)) (hr : K.2.2.2.1 = some .float) (hu : u ≤ mc) (hw : w ≤ ms) (hx : x = r) (hM : M = M') : Ev l K (gM n mc ms (.inl (some (.float r))) M') R n u w pc lo [.float x] M := by
  subst hx; subst hM
  exact fun p e s m args below meth c D cy L A H locs ls X hl hP hS => W.widen hu hw (vx_ret (W.fret X.1 X.2.1 (X.2.2.2.2.2.2.1.trans hr) (fun t ht hW => ⟨⟨_, rfl, rfl⟩, by rw [ht]; exact hP, hS.F ht⟩) hS.2.2 hd X.2.2.2.2.2.1))
theorem e_dret {x r : UInt64} {mc ms : Nat} (hd : decode K.2.1 pc = .ok (.dreturn, 1)) (hr : K.2.2.2.1 = some .double) (hu : u ≤ mc) (hw : w ≤ ms) (hx : x = r) (hM : M = M') : Ev l K (gM n mc ms (.inl (some (.double r))) M') R n u w pc lo [.double x] M := by
  subst hx; subst hM
  exact fun p e s m args below meth c D cy L A H locs ls X hl hP hS => W.widen hu hw (vx_ret (W.dret X.1 X.2.1 (X.2.2.2.2.2.2.1.trans hr) (fun t ht hW => ⟨⟨_, rfl, rfl⟩, by rw [ht]; exact hP, hS.F ht⟩) hS.2.2 hd X.2.2.2.2.2.1))
theorem e_throw {ik is ic mc ms : Nat} (d0 : decode K.2.1 pc = .ok (.new ik, 3)) (d3 : decode K.2.1 (pc + 3) = .ok (.dup, 1)) (d4 : decode K.2.1 (pc + 4) = .ok (.ldc is, 2)) (d6 : decode K.2.1 (pc + 6) = .ok (.invokespecial ic, 3)) (d9 : decode K.2.1 (pc + 9) = .ok (.athrow, 1))
    (hth : pmTh K.1.cls ik is ic E) (htab : K.2.2.2.2 = []) (hR : 6 < R.frames ∧ 103 ≤ R.locals) (hr : (st.map fun v => v.category).sum ≤ 8) (hc : u + 1 ≤ R.cells ∧ w + 6 ≤ R.slots) (hm : u + 1 ≤ mc ∧ w + 6 ≤ ms) (hM : M = M') :
    Ev l K (gM n mc ms (.inr E) M') R n u w pc lo st M := by
  subst hM
  refine fun p e s m args below meth c D cy L A H locs ls X hl hP hS => ?_
  obtain ⟨names, text, t1, t2, t3, t4, t5, t6, t7, t8⟩ := hth
  have hts := X.2.2.2.2.1
  obtain ⟨hKk, hZ, -⟩ := X.2.2.2.2.2.2.2.2.2.2
  obtain ⟨sa, hsa⟩ := hKk.2.2.1 _ _ _ t6
  have ht : c.exceptionTable.toList = [] := by rw [X.2.2.2.2.2.2.2.1, htab]; rfl
  have hrr := pm_rest L hr
  refine vx_throwS X.1 X.2.1 X.2.2.2.2.2.2.2.2.2.1 X.2.2.2.1 t1 t2 (hts _ t4) (hts _ t5) hsa (fun w hw => (t7 w hw).elim (fun h => hts w h) (fun h => nw_use h (hKk.2.1 w h))) t8 hZ.1 hZ.2 hS (hl.1.trans X.2.2.1.symm) d0 d3 d4 d6 d9 (by rw [ht]; exact fun x hx => nomatch hx) (by omega) ?_ hc.1 hc.2 X.2.2.2.2.2.1 (fun t hv hsz hk => ⟨rfl, hP.kept (fun k q hq => hk _ (hP k q hq).lt), Nat.le_trans hS.1 hsz, fun q h1 h2 => (hk q (Nat.lt_of_lt_of_le h1 hS.1)).trans (hS.2.1 q h1 h2)⟩) hS.2.2 hm.1 hm.2
  have : 13 * (names.length + 1) ≤ 52 := by omega
  omega
theorem sp_of {d mc ms : Nat} {res : pmRes} (hf : l.stackTraces = false) (hy : plainName K.1.cls = true) (hn : vs.length ≤ K.2.2.1) (hv : ∀ v ∈ vs, v.category = 1) (hh : K.2.2.2.2 = []) (body : Ev l K (gM n mc ms res M') (rmd d mc ms) n 0 0 0 (pmLo K.2.2.1 vs) [] M) : Sp l K n d mc ms vs M res M' := by
  intro D cy L A
  refine vx_ofW (cc := K.2.1) (maxL := K.2.2.1) (ret := K.2.2.2.1) hy rfl ?_
  intro p e s m args below meth c s₁ B hml ht hvv
  obtain ⟨rfl, hK, hZ, hA, hi, hAi, hP⟩ := hvv
  have hts := atoms_spec (ws := wU K) B.pre
  obtain ⟨ls, h1, h2⟩ := pm_entry L vs hn hv m
  rw [h1]
  exact body p e s m _ below meth c D cy L A s.heap [] ls ⟨B.exec, B.bytes, hml, findClass_of_methodNamed B.named, fun w hw => hts w (List.mem_cons_of_mem _ hw), B.notSynchronized, B.returns, by rw [hh]; exact List.eq_nil_iff_forall_not_mem.mpr ht, (name_of_methodNamed B.named B.method).1, hf, hK, hZ, hA, hi, hAi⟩ h2 hP va_S.rf
end EVC
end
