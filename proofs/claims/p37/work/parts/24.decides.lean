/-! ===== FilterRules: packets, decisions, the order ===== -/
def paM (M : pmM) (td : Int32) : pmM := (pm2 M.1 0 5 td, M.2)
def acS (M : pmM) (od : Nat → Nat) : Nat → Int32
  | 0 => nI 0
  | n + 1 => if M.1 (31 + 3 * od n) 1 = nI 97 then acS M od n + deE M od n else acS M od n
/-- the most packets in common, and whose they are -/
def msF (M : pmM) (od : Nat → Nat) (p : Nat) : Nat → Int32 × Int32
  | 0 => (nI 0, -1)
  | i + 1 => if inF M od i = true ∧ (msF M od p i).1 < pbE M (od i) (od p) then (pbE M (od i) (od p), M.1 (31 + 3 * od i) 0) else msF M od p i
def crC (M T : pmM) (od : Nat → Nat) (rc a : Nat) : Nat → Int32 → Int32
  | 0, s => s
  | b + 1, s => if acF M od rc a = acF M od rc b then crC M T od rc a b s else crC M T od rc a b s + T.1 (6 + a) b
def crR (M T : pmM) (od : Nat → Nat) (rc : Nat) : Nat → Int32
  | 0 => nI 0
  | a + 1 => crC M T od rc a 9 (crR M T od rc a)
def suS (M : pmM) (od : Nat → Nat) : Nat → Int32
  | 0 => nI 0
  | n + 1 => suS M od n + M.1 (31 + 3 * od n) 5
theorem bcE_256 {m : Nat} (h : m < 256) : bcE (nI m) = nI (pcn m) := (show ∀ m, m < 256 → bcE (nI m) = nI (pcn m) by decide +kernel) m h
theorem acF_congr {M T : pmM} {od : Nat → Nat} {rc p : Nat} (h : SX M T) (hod : ∀ p, p < 8 → od p < 8) (h8 : rc ≤ 8) : acF T od rc p = acF M od rc p := by
  unfold acF
  by_cases q : p < rc
  · rw [if_pos q, if_pos q, h.2 _ _ (by have := hod p (by omega); unfold scr; omega)]
  · rw [if_neg q, if_neg q]
theorem s_packet_ok {l : Launch} (hf : l.stackTraces = false) {M : pmM} {od : Nat → Nat} (hmr : M.2.1 = mrC od) (hod : ∀ p, p < 8 → od p < 8) {rc : Nat} (hrc : M.1 0 3 = nI rc) (h8 : rc ≤ 8) {a b c : Nat} (ha : a < 32) (hb : b < 32) (hc : c < 32) (hac : ∀ p, p < rc → M.1 (31 + 3 * od p) 1 = nI 97 ∨ M.1 (31 + 3 * od p) 1 = nI 100) {p : Nat} (hp : p < rc) (hx : inF M od p = true ∧ maF M (od p) a b c = true) (hn : ∀ q, q < p → ¬ (inF M od q = true ∧ maF M (od q) a b c = true)) : Sp l kX3_packet 64 3 3 18 [.ref 0, .int (nI a), .int (nI b), .int (nI c)] M (.inl (some (.int (M.1 (31 + 3 * od p) 1)))) (hiM M (od p) (M.1 0 5)) := by
  refine sp_of hf (by decide +kernel) (Nat.le_of_ble_eq_true rfl) (by intro v hv; simp at hv; rcases hv with rfl | rfl | rfl | rfl <;> rfl) rfl ?_
  have e1 : (hiM M (od p) (M.1 0 5)).1 (31 + 3 * od p) 1 = M.1 (31 + 3 * od p) 1 := by
    show pm2 (pm2 (hi1 M (od p) (M.1 0 5)) _ _ _) _ _ _ _ _ = _
    rw [pm2_k (by decide), pm2_k (by decide)]
    unfold hi1
    split
    · rfl
    · rw [pm2_k (by decide)]
  refine e_iload_1 dX3_packet_0 rfl ?_
  refine e_iload_2 dX3_packet_1 rfl ?_
  refine e_iload_3 dX3_packet_2 rfl ?_
  refine e_callS dX3_packet_3 rfl csX3_180 (s_requirePacket_ok hf ha hb hc) rfl rfl ⟨Nat.le_of_ble_eq_true rfl, Nat.le_of_ble_eq_true rfl⟩ ⟨Nat.le_of_ble_eq_true rfl, Nat.le_of_ble_eq_true rfl⟩ rfl rfl (Nat.le_of_ble_eq_true rfl) ?_
  refine e_aload_0 dX3_packet_6 rfl ?_
  refine e_iload_1 dX3_packet_7 rfl ?_
  refine e_iload_2 dX3_packet_8 rfl ?_
  refine e_iload_3 dX3_packet_9 rfl ?_
  refine e_callV dX3_packet_10 rfl csX3_184 (s_deciding_ok hf hmr hod hrc h8 ha hb hc hp hx hn) rfl rfl ps_0 (by decide) (by decide) ⟨Nat.le_of_ble_eq_true rfl, Nat.le_of_ble_eq_true rfl⟩ ⟨Nat.le_of_ble_eq_true rfl, Nat.le_of_ble_eq_true rfl⟩ rfl rfl (Nat.le_of_ble_eq_true rfl) ?_
  refine e_istore_4 dX3_packet_13 rfl (Nat.le_of_ble_eq_true rfl) rfl ?_
  refine e_iload_4 dX3_packet_15 rfl ?_
  refine e_iconst (v := -1) dX3_packet_17 rfl ic_m1 ?_
  refine e_ic_ne_t (tgt := 24) dX3_packet_18 (by decide) (nI_m1 (by omega)) ?_
  refine e_aload_0 dX3_packet_24 rfl ?_
  refine e_getR dX3_packet_25 rfl lkX3_17 rfl ps_0 (by decide) (by decide) (mr_of hmr rfl) ?_
  refine e_iload_4 dX3_packet_28 rfl ?_
  refine e_aald dX3_packet_30 rfl ps_2 (by decide) (by decide) (by decide) rfl (by omega) (mr_of hmr (mr_order _ _)) ?_
  refine e_astore_5 dX3_packet_31 rfl (Nat.le_of_ble_eq_true rfl) rfl ?_
  refine e_aload_5 dX3_packet_33 rfl ?_
  refine e_aload_0 dX3_packet_35 rfl ?_
  refine e_getI dX3_packet_36 rfl lkX3_143 rfl ps_0 (by decide) (by decide) ?_
  refine e_callN dX3_packet_39 rfl csX3_188 (s_hitOn hf (hod _ (by omega))) rfl rfl (ps_R (hod _ (by omega))) (by decide) (lt_RU (hod _ (by omega))) ⟨Nat.le_of_ble_eq_true rfl, Nat.le_of_ble_eq_true rfl⟩ ⟨Nat.le_of_ble_eq_true rfl, Nat.le_of_ble_eq_true rfl⟩ rfl rfl (Nat.le_of_ble_eq_true rfl) ?_
  refine e_aload_5 dX3_packet_42 rfl ?_
  refine e_getI dX3_packet_44 rfl lkX3_191 rfl (ps_R (hod _ (by omega))) (by decide) (lt_RU (hod _ (by omega))) ?_
  refine e_topi (M.1 (31 + 3 * od p) 1) e1 ?_
  exact e_iret dX3_packet_47 rfl (ch_ok (hac p hp)).1 (Nat.le_of_ble_eq_true rfl) (Nat.le_of_ble_eq_true rfl) rfl rfl
theorem s_packet_no {l : Launch} (hf : l.stackTraces = false) {M : pmM} {od : Nat → Nat} (hmr : M.2.1 = mrC od) (hod : ∀ p, p < 8 → od p < 8) {rc : Nat} (hrc : M.1 0 3 = nI rc) (h8 : rc ≤ 8) {a b c : Nat} (ha : a < 32) (hb : b < 32) (hc : c < 32) (hn : ∀ q, q < rc → ¬ (inF M od q = true ∧ maF M (od q) a b c = true)) : Sp l kX3_packet 64 3 3 18 [.ref 0, .int (nI a), .int (nI b), .int (nI c)] M (.inl (some (.int (nI 100)))) M := by
  refine sp_of hf (by decide +kernel) (Nat.le_of_ble_eq_true rfl) (by intro v hv; simp at hv; rcases hv with rfl | rfl | rfl | rfl <;> rfl) rfl ?_
  refine e_iload_1 dX3_packet_0 rfl ?_
  refine e_iload_2 dX3_packet_1 rfl ?_
  refine e_iload_3 dX3_packet_2 rfl ?_
  refine e_callS dX3_packet_3 rfl csX3_180 (s_requirePacket_ok hf ha hb hc) rfl rfl ⟨Nat.le_of_ble_eq_true rfl, Nat.le_of_ble_eq_true rfl⟩ ⟨Nat.le_of_ble_eq_true rfl, Nat.le_of_ble_eq_true rfl⟩ rfl rfl (Nat.le_of_ble_eq_true rfl) ?_
  refine e_aload_0 dX3_packet_6 rfl ?_
  refine e_iload_1 dX3_packet_7 rfl ?_
  refine e_iload_2 dX3_packet_8 rfl ?_
  refine e_iload_3 dX3_packet_9 rfl ?_
  refine e_callV dX3_packet_10 rfl csX3_184 (s_deciding_no hf hmr hod hrc h8 ha hb hc hn) rfl rfl ps_0 (by decide) (by decide) ⟨Nat.le_of_ble_eq_true rfl, Nat.le_of_ble_eq_true rfl⟩ ⟨Nat.le_of_ble_eq_true rfl, Nat.le_of_ble_eq_true rfl⟩ rfl rfl (Nat.le_of_ble_eq_true rfl) ?_
  refine e_istore_4 dX3_packet_13 rfl (Nat.le_of_ble_eq_true rfl) rfl ?_
  refine e_iload_4 dX3_packet_15 rfl ?_
  refine e_iconst (v := -1) dX3_packet_17 rfl ic_m1 ?_
  refine e_ic_ne_f dX3_packet_18 rfl ⟨24, by decide⟩ rfl ?_
  refine e_bipush (v := nI 100) dX3_packet_21 rfl bc_100 ?_
  exact e_iret dX3_packet_23 rfl (pk_charN (by decide)).1 (Nat.le_of_ble_eq_true rfl) (Nat.le_of_ble_eq_true rfl) rfl rfl
theorem s_packet_bad {l : Launch} (hf : l.stackTraces = false) {M : pmM} {x y z : Int32} (hx : ¬ (vp_in x 32 ∧ vp_in y 32 ∧ vp_in z 32)) : Sp l kX3_packet 64 3 3 18 [.ref 0, .int x, .int y, .int z] M (.inr "java/lang/IllegalArgumentException") M := by
  refine sp_of hf (by decide +kernel) (Nat.le_of_ble_eq_true rfl) (by intro v hv; simp at hv; rcases hv with rfl | rfl | rfl | rfl <;> rfl) rfl ?_
  refine e_iload_1 dX3_packet_0 rfl ?_
  refine e_iload_2 dX3_packet_1 rfl ?_
  refine e_iload_3 dX3_packet_2 rfl ?_
  exact e_callS_x dX3_packet_3 csX3_180 (s_requirePacket_no hf hx) rfl rfl ⟨Nat.le_of_ble_eq_true rfl, Nat.le_of_ble_eq_true rfl⟩ ⟨Nat.le_of_ble_eq_true rfl, Nat.le_of_ble_eq_true rfl⟩ (Nat.le_of_ble_eq_true rfl) rfl ⟨Nat.le_of_ble_eq_true rfl, Nat.le_of_ble_eq_true rfl⟩
theorem s_decider_ok {l : Launch} (hf : l.stackTraces = false) {M : pmM} {od : Nat → Nat} (hmr : M.2.1 = mrC od) (hod : ∀ p, p < 8 → od p < 8) {rc : Nat} (hrc : M.1 0 3 = nI rc) (h8 : rc ≤ 8) {a b c : Nat} (ha : a < 32) (hb : b < 32) (hc : c < 32) {p : Nat} (hp : p < rc) (hx : inF M od p = true ∧ maF M (od p) a b c = true) (hn : ∀ q, q < p → ¬ (inF M od q = true ∧ maF M (od q) a b c = true)) : Sp l kX3_decider 64 3 3 18 [.ref 0, .int (nI a), .int (nI b), .int (nI c)] M (.inl (some (.int (M.1 (31 + 3 * od p) 0)))) M := by
  refine sp_of hf (by decide +kernel) (Nat.le_of_ble_eq_true rfl) (by intro v hv; simp at hv; rcases hv with rfl | rfl | rfl | rfl <;> rfl) rfl ?_
  refine e_iload_1 dX3_decider_0 rfl ?_
  refine e_iload_2 dX3_decider_1 rfl ?_
  refine e_iload_3 dX3_decider_2 rfl ?_
  refine e_callS dX3_decider_3 rfl csX3_180 (s_requirePacket_ok hf ha hb hc) rfl rfl ⟨Nat.le_of_ble_eq_true rfl, Nat.le_of_ble_eq_true rfl⟩ ⟨Nat.le_of_ble_eq_true rfl, Nat.le_of_ble_eq_true rfl⟩ rfl rfl (Nat.le_of_ble_eq_true rfl) ?_
  refine e_aload_0 dX3_decider_6 rfl ?_
  refine e_iload_1 dX3_decider_7 rfl ?_
  refine e_iload_2 dX3_decider_8 rfl ?_
  refine e_iload_3 dX3_decider_9 rfl ?_
  refine e_callV dX3_decider_10 rfl csX3_184 (s_deciding_ok hf hmr hod hrc h8 ha hb hc hp hx hn) rfl rfl ps_0 (by decide) (by decide) ⟨Nat.le_of_ble_eq_true rfl, Nat.le_of_ble_eq_true rfl⟩ ⟨Nat.le_of_ble_eq_true rfl, Nat.le_of_ble_eq_true rfl⟩ rfl rfl (Nat.le_of_ble_eq_true rfl) ?_
  refine e_istore_4 dX3_decider_13 rfl (Nat.le_of_ble_eq_true rfl) rfl ?_
  refine e_iload_4 dX3_decider_15 rfl ?_
  refine e_iconst (v := -1) dX3_decider_17 rfl ic_m1 ?_
  refine e_ic_ne_t (tgt := 25) dX3_decider_18 (by decide) (nI_m1 (by omega)) ?_
  refine e_aload_0 dX3_decider_25 rfl ?_
  refine e_getR dX3_decider_26 rfl lkX3_17 rfl ps_0 (by decide) (by decide) (mr_of hmr rfl) ?_
  refine e_iload_4 dX3_decider_29 rfl ?_
  refine e_aald dX3_decider_31 rfl ps_2 (by decide) (by decide) (by decide) rfl (by omega) (mr_of hmr (mr_order _ _)) ?_
  refine e_getI dX3_decider_32 rfl lkX3_153 rfl (ps_R (hod _ (by omega))) (by decide) (lt_RU (hod _ (by omega))) ?_
  exact e_iret dX3_decider_35 rfl rfl (Nat.le_of_ble_eq_true rfl) (Nat.le_of_ble_eq_true rfl) rfl rfl
theorem s_decider_no {l : Launch} (hf : l.stackTraces = false) {M : pmM} {od : Nat → Nat} (hmr : M.2.1 = mrC od) (hod : ∀ p, p < 8 → od p < 8) {rc : Nat} (hrc : M.1 0 3 = nI rc) (h8 : rc ≤ 8) {a b c : Nat} (ha : a < 32) (hb : b < 32) (hc : c < 32) (hn : ∀ q, q < rc → ¬ (inF M od q = true ∧ maF M (od q) a b c = true)) : Sp l kX3_decider 64 3 3 18 [.ref 0, .int (nI a), .int (nI b), .int (nI c)] M (.inl (some (.int (-1)))) M := by
  refine sp_of hf (by decide +kernel) (Nat.le_of_ble_eq_true rfl) (by intro v hv; simp at hv; rcases hv with rfl | rfl | rfl | rfl <;> rfl) rfl ?_
  refine e_iload_1 dX3_decider_0 rfl ?_
  refine e_iload_2 dX3_decider_1 rfl ?_
  refine e_iload_3 dX3_decider_2 rfl ?_
  refine e_callS dX3_decider_3 rfl csX3_180 (s_requirePacket_ok hf ha hb hc) rfl rfl ⟨Nat.le_of_ble_eq_true rfl, Nat.le_of_ble_eq_true rfl⟩ ⟨Nat.le_of_ble_eq_true rfl, Nat.le_of_ble_eq_true rfl⟩ rfl rfl (Nat.le_of_ble_eq_true rfl) ?_
  refine e_aload_0 dX3_decider_6 rfl ?_
  refine e_iload_1 dX3_decider_7 rfl ?_
  refine e_iload_2 dX3_decider_8 rfl ?_
  refine e_iload_3 dX3_decider_9 rfl ?_
  refine e_callV dX3_decider_10 rfl csX3_184 (s_deciding_no hf hmr hod hrc h8 ha hb hc hn) rfl rfl ps_0 (by decide) (by decide) ⟨Nat.le_of_ble_eq_true rfl, Nat.le_of_ble_eq_true rfl⟩ ⟨Nat.le_of_ble_eq_true rfl, Nat.le_of_ble_eq_true rfl⟩ rfl rfl (Nat.le_of_ble_eq_true rfl) ?_
  refine e_istore_4 dX3_decider_13 rfl (Nat.le_of_ble_eq_true rfl) rfl ?_
  refine e_iload_4 dX3_decider_15 rfl ?_
  refine e_iconst (v := -1) dX3_decider_17 rfl ic_m1 ?_
  refine e_ic_ne_f dX3_decider_18 rfl ⟨25, by decide⟩ rfl ?_
  refine e_iconst (v := -1) dX3_decider_21 rfl ic_m1 ?_
  refine e_goto (tgt := 35) dX3_decider_22 (by decide) ?_
  exact e_iret dX3_decider_35 rfl rfl (Nat.le_of_ble_eq_true rfl) (Nat.le_of_ble_eq_true rfl) rfl rfl
theorem s_decider_bad {l : Launch} (hf : l.stackTraces = false) {M : pmM} {x y z : Int32} (hx : ¬ (vp_in x 32 ∧ vp_in y 32 ∧ vp_in z 32)) : Sp l kX3_decider 64 3 3 18 [.ref 0, .int x, .int y, .int z] M (.inr "java/lang/IllegalArgumentException") M := by
  refine sp_of hf (by decide +kernel) (Nat.le_of_ble_eq_true rfl) (by intro v hv; simp at hv; rcases hv with rfl | rfl | rfl | rfl <;> rfl) rfl ?_
  refine e_iload_1 dX3_decider_0 rfl ?_
  refine e_iload_2 dX3_decider_1 rfl ?_
  refine e_iload_3 dX3_decider_2 rfl ?_
  exact e_callS_x dX3_decider_3 csX3_180 (s_requirePacket_no hf hx) rfl rfl ⟨Nat.le_of_ble_eq_true rfl, Nat.le_of_ble_eq_true rfl⟩ ⟨Nat.le_of_ble_eq_true rfl, Nat.le_of_ble_eq_true rfl⟩ (Nat.le_of_ble_eq_true rfl) rfl ⟨Nat.le_of_ble_eq_true rfl, Nat.le_of_ble_eq_true rfl⟩
theorem s_hits_ok {l : Launch} (hf : l.stackTraces = false) {M : pmM} {od : Nat → Nat} (hmr : M.2.1 = mrC od) (hod : ∀ p, p < 8 → od p < 8) {rc : Nat} (hrc : M.1 0 3 = nI rc) (h8 : rc ≤ 8) {x : Int32} {p : Nat} (hp : p < rc) (hx : M.1 (31 + 3 * od p) 0 = x) (hn : ∀ q, q < p → M.1 (31 + 3 * od q) 0 ≠ x) : Sp l kX3_hits 64 2 1 6 [.ref 0, .int x] M (.inl (some (.int (M.1 (31 + 3 * od p) 5)))) M := by
  refine sp_of hf (by decide +kernel) (Nat.le_of_ble_eq_true rfl) (by intro v hv; simp at hv; rcases hv with rfl | rfl <;> rfl) rfl ?_
  refine e_aload_0 dX3_hits_0 rfl ?_
  refine e_getR dX3_hits_1 rfl lkX3_17 rfl ps_0 (by decide) (by decide) (mr_of hmr rfl) ?_
  refine e_aload_0 dX3_hits_4 rfl ?_
  refine e_iload_1 dX3_hits_5 rfl ?_
  refine e_callV dX3_hits_6 rfl csX3_156 (s_requireRule_ok hf hmr hod hrc h8 hp hx hn) rfl rfl ps_0 (by decide) (by decide) ⟨Nat.le_of_ble_eq_true rfl, Nat.le_of_ble_eq_true rfl⟩ ⟨Nat.le_of_ble_eq_true rfl, Nat.le_of_ble_eq_true rfl⟩ rfl rfl (Nat.le_of_ble_eq_true rfl) ?_
  refine e_aald dX3_hits_9 rfl ps_2 (by decide) (by decide) (by decide) rfl (by omega) (mr_of hmr (mr_order _ _)) ?_
  refine e_getI dX3_hits_10 rfl lkX3_195 rfl (ps_R (hod _ (by omega))) (by decide) (lt_RU (hod _ (by omega))) ?_
  exact e_iret dX3_hits_13 rfl rfl (Nat.le_of_ble_eq_true rfl) (Nat.le_of_ble_eq_true rfl) rfl rfl
theorem s_hits_nr {l : Launch} (hf : l.stackTraces = false) {M : pmM} {od : Nat → Nat} (hmr : M.2.1 = mrC od) (hod : ∀ p, p < 8 → od p < 8) {rc : Nat} (hrc : M.1 0 3 = nI rc) (h8 : rc ≤ 8) {x : Int32} (hn : ∀ q, q < rc → M.1 (31 + 3 * od q) 0 ≠ x) : Sp l kX3_hits 64 2 1 6 [.ref 0, .int x] M (.inr "java/util/NoSuchElementException") M := by
  refine sp_of hf (by decide +kernel) (Nat.le_of_ble_eq_true rfl) (by intro v hv; simp at hv; rcases hv with rfl | rfl <;> rfl) rfl ?_
  refine e_aload_0 dX3_hits_0 rfl ?_
  refine e_getR dX3_hits_1 rfl lkX3_17 rfl ps_0 (by decide) (by decide) (mr_of hmr rfl) ?_
  refine e_aload_0 dX3_hits_4 rfl ?_
  refine e_iload_1 dX3_hits_5 rfl ?_
  exact e_callV_x dX3_hits_6 csX3_156 (s_requireRule_no hf hmr hod hrc h8 hn) rfl rfl ps_0 (by decide) (by decide) ⟨Nat.le_of_ble_eq_true rfl, Nat.le_of_ble_eq_true rfl⟩ ⟨Nat.le_of_ble_eq_true rfl, Nat.le_of_ble_eq_true rfl⟩ (Nat.le_of_ble_eq_true rfl) rfl ⟨Nat.le_of_ble_eq_true rfl, Nat.le_of_ble_eq_true rfl⟩
theorem s_busyDays_ok {l : Launch} (hf : l.stackTraces = false) {M : pmM} {od : Nat → Nat} (hmr : M.2.1 = mrC od) (hod : ∀ p, p < 8 → od p < 8) {rc : Nat} (hrc : M.1 0 3 = nI rc) (h8 : rc ≤ 8) {x : Int32} {p : Nat} (hp : p < rc) (hx : M.1 (31 + 3 * od p) 0 = x) (hn : ∀ q, q < p → M.1 (31 + 3 * od q) 0 ≠ x) : Sp l kX3_busyDays 64 2 1 6 [.ref 0, .int x] M (.inl (some (.int (M.1 (31 + 3 * od p) 6)))) M := by
  refine sp_of hf (by decide +kernel) (Nat.le_of_ble_eq_true rfl) (by intro v hv; simp at hv; rcases hv with rfl | rfl <;> rfl) rfl ?_
  refine e_aload_0 dX3_busyDays_0 rfl ?_
  refine e_getR dX3_busyDays_1 rfl lkX3_17 rfl ps_0 (by decide) (by decide) (mr_of hmr rfl) ?_
  refine e_aload_0 dX3_busyDays_4 rfl ?_
  refine e_iload_1 dX3_busyDays_5 rfl ?_
  refine e_callV dX3_busyDays_6 rfl csX3_156 (s_requireRule_ok hf hmr hod hrc h8 hp hx hn) rfl rfl ps_0 (by decide) (by decide) ⟨Nat.le_of_ble_eq_true rfl, Nat.le_of_ble_eq_true rfl⟩ ⟨Nat.le_of_ble_eq_true rfl, Nat.le_of_ble_eq_true rfl⟩ rfl rfl (Nat.le_of_ble_eq_true rfl) ?_
  refine e_aald dX3_busyDays_9 rfl ps_2 (by decide) (by decide) (by decide) rfl (by omega) (mr_of hmr (mr_order _ _)) ?_
  refine e_getI dX3_busyDays_10 rfl lkX3_198 rfl (ps_R (hod _ (by omega))) (by decide) (lt_RU (hod _ (by omega))) ?_
  exact e_iret dX3_busyDays_13 rfl rfl (Nat.le_of_ble_eq_true rfl) (Nat.le_of_ble_eq_true rfl) rfl rfl
theorem s_busyDays_nr {l : Launch} (hf : l.stackTraces = false) {M : pmM} {od : Nat → Nat} (hmr : M.2.1 = mrC od) (hod : ∀ p, p < 8 → od p < 8) {rc : Nat} (hrc : M.1 0 3 = nI rc) (h8 : rc ≤ 8) {x : Int32} (hn : ∀ q, q < rc → M.1 (31 + 3 * od q) 0 ≠ x) : Sp l kX3_busyDays 64 2 1 6 [.ref 0, .int x] M (.inr "java/util/NoSuchElementException") M := by
  refine sp_of hf (by decide +kernel) (Nat.le_of_ble_eq_true rfl) (by intro v hv; simp at hv; rcases hv with rfl | rfl <;> rfl) rfl ?_
  refine e_aload_0 dX3_busyDays_0 rfl ?_
  refine e_getR dX3_busyDays_1 rfl lkX3_17 rfl ps_0 (by decide) (by decide) (mr_of hmr rfl) ?_
  refine e_aload_0 dX3_busyDays_4 rfl ?_
  refine e_iload_1 dX3_busyDays_5 rfl ?_
  exact e_callV_x dX3_busyDays_6 csX3_156 (s_requireRule_no hf hmr hod hrc h8 hn) rfl rfl ps_0 (by decide) (by decide) ⟨Nat.le_of_ble_eq_true rfl, Nat.le_of_ble_eq_true rfl⟩ ⟨Nat.le_of_ble_eq_true rfl, Nat.le_of_ble_eq_true rfl⟩ (Nat.le_of_ble_eq_true rfl) rfl ⟨Nat.le_of_ble_eq_true rfl, Nat.le_of_ble_eq_true rfl⟩
def idE (M : pmM) (j : Nat) : Int32 := if M.1 (31 + 3 * j) 7 = -1 then M.1 0 5 - M.1 (31 + 3 * j) 4 else M.1 0 5 - M.1 (31 + 3 * j) 7
theorem s_idleDays_ok {l : Launch} (hf : l.stackTraces = false) {M : pmM} {od : Nat → Nat} (hmr : M.2.1 = mrC od) (hod : ∀ p, p < 8 → od p < 8) {rc : Nat} (hrc : M.1 0 3 = nI rc) (h8 : rc ≤ 8) {x : Int32} {p : Nat} (hp : p < rc) (hx : M.1 (31 + 3 * od p) 0 = x) (hn : ∀ q, q < p → M.1 (31 + 3 * od q) 0 ≠ x) : Sp l kX3_idleDays 64 2 1 6 [.ref 0, .int x] M (.inl (some (.int (idE M (od p))))) M := by
  refine sp_of hf (by decide +kernel) (Nat.le_of_ble_eq_true rfl) (by intro v hv; simp at hv; rcases hv with rfl | rfl <;> rfl) rfl ?_
  by_cases h : M.1 (31 + 3 * od p) 7 = -1
  · refine e_aload_0 dX3_idleDays_0 rfl ?_
    refine e_getR dX3_idleDays_1 rfl lkX3_17 rfl ps_0 (by decide) (by decide) (mr_of hmr rfl) ?_
    refine e_aload_0 dX3_idleDays_4 rfl ?_
    refine e_iload_1 dX3_idleDays_5 rfl ?_
    refine e_callV dX3_idleDays_6 rfl csX3_156 (s_requireRule_ok hf hmr hod hrc h8 hp hx hn) rfl rfl ps_0 (by decide) (by decide) ⟨Nat.le_of_ble_eq_true rfl, Nat.le_of_ble_eq_true rfl⟩ ⟨Nat.le_of_ble_eq_true rfl, Nat.le_of_ble_eq_true rfl⟩ rfl rfl (Nat.le_of_ble_eq_true rfl) ?_
    refine e_aald dX3_idleDays_9 rfl ps_2 (by decide) (by decide) (by decide) rfl (by omega) (mr_of hmr (mr_order _ _)) ?_
    refine e_astore_2 dX3_idleDays_10 rfl (Nat.le_of_ble_eq_true rfl) rfl ?_
    refine e_aload_0 dX3_idleDays_11 rfl ?_
    refine e_getI dX3_idleDays_12 rfl lkX3_143 rfl ps_0 (by decide) (by decide) ?_
    refine e_aload_2 dX3_idleDays_15 rfl ?_
    refine e_getI dX3_idleDays_16 rfl lkX3_201 rfl (ps_R (hod _ (by omega))) (by decide) (lt_RU (hod _ (by omega))) ?_
    refine e_iconst (v := -1) dX3_idleDays_19 rfl ic_m1 ?_
    refine e_ic_ne_f dX3_idleDays_20 rfl ⟨30, by decide⟩ h ?_
    refine e_aload_2 dX3_idleDays_23 rfl ?_
    refine e_getI dX3_idleDays_24 rfl lkX3_204 rfl (ps_R (hod _ (by omega))) (by decide) (lt_RU (hod _ (by omega))) ?_
    refine e_goto (tgt := 34) dX3_idleDays_27 (by decide) ?_
    refine e_isub dX3_idleDays_34 rfl ?_
    exact e_iret dX3_idleDays_35 rfl rfl (Nat.le_of_ble_eq_true rfl) (Nat.le_of_ble_eq_true rfl) (if_pos h).symm rfl
  · refine e_aload_0 dX3_idleDays_0 rfl ?_
    refine e_getR dX3_idleDays_1 rfl lkX3_17 rfl ps_0 (by decide) (by decide) (mr_of hmr rfl) ?_
    refine e_aload_0 dX3_idleDays_4 rfl ?_
    refine e_iload_1 dX3_idleDays_5 rfl ?_
    refine e_callV dX3_idleDays_6 rfl csX3_156 (s_requireRule_ok hf hmr hod hrc h8 hp hx hn) rfl rfl ps_0 (by decide) (by decide) ⟨Nat.le_of_ble_eq_true rfl, Nat.le_of_ble_eq_true rfl⟩ ⟨Nat.le_of_ble_eq_true rfl, Nat.le_of_ble_eq_true rfl⟩ rfl rfl (Nat.le_of_ble_eq_true rfl) ?_
    refine e_aald dX3_idleDays_9 rfl ps_2 (by decide) (by decide) (by decide) rfl (by omega) (mr_of hmr (mr_order _ _)) ?_
    refine e_astore_2 dX3_idleDays_10 rfl (Nat.le_of_ble_eq_true rfl) rfl ?_
    refine e_aload_0 dX3_idleDays_11 rfl ?_
    refine e_getI dX3_idleDays_12 rfl lkX3_143 rfl ps_0 (by decide) (by decide) ?_
    refine e_aload_2 dX3_idleDays_15 rfl ?_
    refine e_getI dX3_idleDays_16 rfl lkX3_201 rfl (ps_R (hod _ (by omega))) (by decide) (lt_RU (hod _ (by omega))) ?_
    refine e_iconst (v := -1) dX3_idleDays_19 rfl ic_m1 ?_
    refine e_ic_ne_t (tgt := 30) dX3_idleDays_20 (by decide) h ?_
    refine e_aload_2 dX3_idleDays_30 rfl ?_
    refine e_getI dX3_idleDays_31 rfl lkX3_201 rfl (ps_R (hod _ (by omega))) (by decide) (lt_RU (hod _ (by omega))) ?_
    refine e_isub dX3_idleDays_34 rfl ?_
    exact e_iret dX3_idleDays_35 rfl rfl (Nat.le_of_ble_eq_true rfl) (Nat.le_of_ble_eq_true rfl) (if_neg h).symm rfl
theorem s_idleDays_nr {l : Launch} (hf : l.stackTraces = false) {M : pmM} {od : Nat → Nat} (hmr : M.2.1 = mrC od) (hod : ∀ p, p < 8 → od p < 8) {rc : Nat} (hrc : M.1 0 3 = nI rc) (h8 : rc ≤ 8) {x : Int32} (hn : ∀ q, q < rc → M.1 (31 + 3 * od q) 0 ≠ x) : Sp l kX3_idleDays 64 2 1 6 [.ref 0, .int x] M (.inr "java/util/NoSuchElementException") M := by
  refine sp_of hf (by decide +kernel) (Nat.le_of_ble_eq_true rfl) (by intro v hv; simp at hv; rcases hv with rfl | rfl <;> rfl) rfl ?_
  refine e_aload_0 dX3_idleDays_0 rfl ?_
  refine e_getR dX3_idleDays_1 rfl lkX3_17 rfl ps_0 (by decide) (by decide) (mr_of hmr rfl) ?_
  refine e_aload_0 dX3_idleDays_4 rfl ?_
  refine e_iload_1 dX3_idleDays_5 rfl ?_
  exact e_callV_x dX3_idleDays_6 csX3_156 (s_requireRule_no hf hmr hod hrc h8 hn) rfl rfl ps_0 (by decide) (by decide) ⟨Nat.le_of_ble_eq_true rfl, Nat.le_of_ble_eq_true rfl⟩ ⟨Nat.le_of_ble_eq_true rfl, Nat.le_of_ble_eq_true rfl⟩ (Nat.le_of_ble_eq_true rfl) rfl ⟨Nat.le_of_ble_eq_true rfl, Nat.le_of_ble_eq_true rfl⟩
theorem s_pass_ok {l : Launch} (hf : l.stackTraces = false) {M : pmM} {td : Nat} (htd : M.1 0 5 = nI td) (htd9 : td ≤ 999) {d : Nat} (h1 : 1 ≤ d) (h2 : d ≤ 99) (h3 : td + d ≤ 999) : Sp l kX3_pass 64 2 2 12 [.ref 0, .int (nI d)] M (.inl (some (.int (nI (td + d))))) (paM M (nI (td + d))) := by
  refine sp_of hf (by decide +kernel) (Nat.le_of_ble_eq_true rfl) (by intro v hv; simp at hv; rcases hv with rfl | rfl <;> rfl) rfl ?_
  refine e_iload_1 dX3_pass_0 rfl ?_
  refine e_callS dX3_pass_1 rfl csX3_174 (s_requireDays_ok hf h1 h2) rfl rfl ⟨Nat.le_of_ble_eq_true rfl, Nat.le_of_ble_eq_true rfl⟩ ⟨Nat.le_of_ble_eq_true rfl, Nat.le_of_ble_eq_true rfl⟩ rfl rfl (Nat.le_of_ble_eq_true rfl) ?_
  refine e_aload_0 dX3_pass_4 rfl ?_
  refine e_getI dX3_pass_5 rfl lkX3_143 rfl ps_0 (by decide) (by decide) ?_
  refine e_topi (nI td) htd ?_
  refine e_iload_1 dX3_pass_8 rfl ?_
  refine e_iadd dX3_pass_9 rfl ?_
  refine e_topi (nI (td + d)) (nI_add _ _) ?_
  refine e_sipush (v := nI 999) dX3_pass_10 rfl sc_999 ?_
  refine e_nc_le_t (tgt := 26) dX3_pass_13 (by decide) (by omega) (by omega) h3 ?_
  refine e_aload_0 dX3_pass_26 rfl ?_
  refine e_dup dX3_pass_27 rfl rfl ?_
  refine e_getI dX3_pass_28 rfl lkX3_143 rfl ps_0 (by decide) (by decide) ?_
  refine e_topi (nI td) htd ?_
  refine e_iload_1 dX3_pass_31 rfl ?_
  refine e_iadd dX3_pass_32 rfl ?_
  refine e_topi (nI (td + d)) (nI_add _ _) ?_
  refine e_putI dX3_pass_33 rfl lkX3_143 rfl rfl rfl ps_0 (by decide) (by decide) ?_
  refine e_aload_0 dX3_pass_36 rfl ?_
  refine e_getI dX3_pass_37 rfl lkX3_143 rfl ps_0 (by decide) (by decide) ?_
  refine e_topi (nI (td + d)) rfl ?_
  exact e_iret dX3_pass_40 rfl rfl (Nat.le_of_ble_eq_true rfl) (Nat.le_of_ble_eq_true rfl) rfl rfl
theorem s_pass_no1 {l : Launch} (hf : l.stackTraces = false) {M : pmM} {x : Int32} (hx : ∀ v : Nat, 1 ≤ v → v ≤ 99 → x ≠ nI v) : Sp l kX3_pass 64 2 2 12 [.ref 0, .int x] M (.inr "java/lang/IllegalArgumentException") M := by
  refine sp_of hf (by decide +kernel) (Nat.le_of_ble_eq_true rfl) (by intro v hv; simp at hv; rcases hv with rfl | rfl <;> rfl) rfl ?_
  refine e_iload_1 dX3_pass_0 rfl ?_
  exact e_callS_x dX3_pass_1 csX3_174 (s_requireDays_no hf hx) rfl rfl ⟨Nat.le_of_ble_eq_true rfl, Nat.le_of_ble_eq_true rfl⟩ ⟨Nat.le_of_ble_eq_true rfl, Nat.le_of_ble_eq_true rfl⟩ (Nat.le_of_ble_eq_true rfl) rfl ⟨Nat.le_of_ble_eq_true rfl, Nat.le_of_ble_eq_true rfl⟩
theorem s_pass_no2 {l : Launch} (hf : l.stackTraces = false) {M : pmM} {td : Nat} (htd : M.1 0 5 = nI td) (htd9 : td ≤ 999) {d : Nat} (h1 : 1 ≤ d) (h2 : d ≤ 99) (h3 : 999 < td + d) : Sp l kX3_pass 64 2 2 12 [.ref 0, .int (nI d)] M (.inr "java/lang/IllegalArgumentException") M := by
  refine sp_of hf (by decide +kernel) (Nat.le_of_ble_eq_true rfl) (by intro v hv; simp at hv; rcases hv with rfl | rfl <;> rfl) rfl ?_
  refine e_iload_1 dX3_pass_0 rfl ?_
  refine e_callS dX3_pass_1 rfl csX3_174 (s_requireDays_ok hf h1 h2) rfl rfl ⟨Nat.le_of_ble_eq_true rfl, Nat.le_of_ble_eq_true rfl⟩ ⟨Nat.le_of_ble_eq_true rfl, Nat.le_of_ble_eq_true rfl⟩ rfl rfl (Nat.le_of_ble_eq_true rfl) ?_
  refine e_aload_0 dX3_pass_4 rfl ?_
  refine e_getI dX3_pass_5 rfl lkX3_143 rfl ps_0 (by decide) (by decide) ?_
  refine e_topi (nI td) htd ?_
  refine e_iload_1 dX3_pass_8 rfl ?_
  refine e_iadd dX3_pass_9 rfl ?_
  refine e_topi (nI (td + d)) (nI_add _ _) ?_
  refine e_sipush (v := nI 999) dX3_pass_10 rfl sc_999 ?_
  refine e_nc_le_f dX3_pass_13 rfl ⟨26, by decide⟩ (by omega) (by omega) h3 ?_
  exact e_throw dX3_pass_16 dX3_pass_19 dX3_pass_20 dX3_pass_22 dX3_pass_25 th_82_207_86 rfl ⟨Nat.le_of_ble_eq_true rfl, Nat.le_of_ble_eq_true rfl⟩ (Nat.le_of_ble_eq_true rfl) ⟨Nat.le_of_ble_eq_true rfl, Nat.le_of_ble_eq_true rfl⟩ ⟨Nat.le_of_ble_eq_true rfl, Nat.le_of_ble_eq_true rfl⟩ rfl
theorem s_matched_ok {l : Launch} (hf : l.stackTraces = false) {M : pmM} {od : Nat → Nat} (hmr : M.2.1 = mrC od) (hod : ∀ p, p < 8 → od p < 8) {rc : Nat} (hrc : M.1 0 3 = nI rc) (h8 : rc ≤ 8) {x : Int32} {p : Nat} (hp : p < rc) (hx : M.1 (31 + 3 * od p) 0 = x) (hn : ∀ q, q < p → M.1 (31 + 3 * od q) 0 ≠ x) : Sp l kX3_matched 64 3 1 6 [.ref 0, .int x] M (.inl (some (.int (pbE M (od p) (od p))))) M := by
  refine sp_of hf (by decide +kernel) (Nat.le_of_ble_eq_true rfl) (by intro v hv; simp at hv; rcases hv with rfl | rfl <;> rfl) rfl ?_
  refine e_aload_0 dX3_matched_0 rfl ?_
  refine e_getR dX3_matched_1 rfl lkX3_17 rfl ps_0 (by decide) (by decide) (mr_of hmr rfl) ?_
  refine e_aload_0 dX3_matched_4 rfl ?_
  refine e_iload_1 dX3_matched_5 rfl ?_
  refine e_callV dX3_matched_6 rfl csX3_156 (s_requireRule_ok hf hmr hod hrc h8 hp hx hn) rfl rfl ps_0 (by decide) (by decide) ⟨Nat.le_of_ble_eq_true rfl, Nat.le_of_ble_eq_true rfl⟩ ⟨Nat.le_of_ble_eq_true rfl, Nat.le_of_ble_eq_true rfl⟩ rfl rfl (Nat.le_of_ble_eq_true rfl) ?_
  refine e_aald dX3_matched_9 rfl ps_2 (by decide) (by decide) (by decide) rfl (by omega) (mr_of hmr (mr_order _ _)) ?_
  refine e_astore_2 dX3_matched_10 rfl (Nat.le_of_ble_eq_true rfl) rfl ?_
  refine e_aload_2 dX3_matched_11 rfl ?_
  refine e_aload_2 dX3_matched_12 rfl ?_
  refine e_callS dX3_matched_13 rfl csX3_209 (s_packetsInBoth hf hmr (hod _ (by omega)) (hod _ (by omega))) rfl rfl ⟨Nat.le_of_ble_eq_true rfl, Nat.le_of_ble_eq_true rfl⟩ ⟨Nat.le_of_ble_eq_true rfl, Nat.le_of_ble_eq_true rfl⟩ rfl rfl (Nat.le_of_ble_eq_true rfl) ?_
  exact e_iret dX3_matched_16 rfl rfl (Nat.le_of_ble_eq_true rfl) (Nat.le_of_ble_eq_true rfl) rfl rfl
theorem s_matched_nr {l : Launch} (hf : l.stackTraces = false) {M : pmM} {od : Nat → Nat} (hmr : M.2.1 = mrC od) (hod : ∀ p, p < 8 → od p < 8) {rc : Nat} (hrc : M.1 0 3 = nI rc) (h8 : rc ≤ 8) {x : Int32} (hn : ∀ q, q < rc → M.1 (31 + 3 * od q) 0 ≠ x) : Sp l kX3_matched 64 3 1 6 [.ref 0, .int x] M (.inr "java/util/NoSuchElementException") M := by
  refine sp_of hf (by decide +kernel) (Nat.le_of_ble_eq_true rfl) (by intro v hv; simp at hv; rcases hv with rfl | rfl <;> rfl) rfl ?_
  refine e_aload_0 dX3_matched_0 rfl ?_
  refine e_getR dX3_matched_1 rfl lkX3_17 rfl ps_0 (by decide) (by decide) (mr_of hmr rfl) ?_
  refine e_aload_0 dX3_matched_4 rfl ?_
  refine e_iload_1 dX3_matched_5 rfl ?_
  exact e_callV_x dX3_matched_6 csX3_156 (s_requireRule_no hf hmr hod hrc h8 hn) rfl rfl ps_0 (by decide) (by decide) ⟨Nat.le_of_ble_eq_true rfl, Nat.le_of_ble_eq_true rfl⟩ ⟨Nat.le_of_ble_eq_true rfl, Nat.le_of_ble_eq_true rfl⟩ (Nat.le_of_ble_eq_true rfl) rfl ⟨Nat.le_of_ble_eq_true rfl, Nat.le_of_ble_eq_true rfl⟩
theorem s_decided_ok {l : Launch} (hf : l.stackTraces = false) {M : pmM} {od : Nat → Nat} (hmr : M.2.1 = mrC od) (hod : ∀ p, p < 8 → od p < 8) {rc : Nat} (hrc : M.1 0 3 = nI rc) (h8 : rc ≤ 8) {x : Int32} {p : Nat} (hp : p < rc) (hx : M.1 (31 + 3 * od p) 0 = x) (hn : ∀ q, q < p → M.1 (31 + 3 * od q) 0 ≠ x) : Sp l kX3_decided 64 13 1 6 [.ref 0, .int x] M (.inl (some (.int (deE M od p)))) M := by
  refine sp_of hf (by decide +kernel) (Nat.le_of_ble_eq_true rfl) (by intro v hv; simp at hv; rcases hv with rfl | rfl <;> rfl) rfl ?_
  refine e_aload_0 dX3_decided_0 rfl ?_
  refine e_aload_0 dX3_decided_1 rfl ?_
  refine e_iload_1 dX3_decided_2 rfl ?_
  refine e_callV dX3_decided_3 rfl csX3_156 (s_requireRule_ok hf hmr hod hrc h8 hp hx hn) rfl rfl ps_0 (by decide) (by decide) ⟨Nat.le_of_ble_eq_true rfl, Nat.le_of_ble_eq_true rfl⟩ ⟨Nat.le_of_ble_eq_true rfl, Nat.le_of_ble_eq_true rfl⟩ rfl rfl (Nat.le_of_ble_eq_true rfl) ?_
  refine e_callV dX3_decided_6 rfl csX3_213 (s_decidedAt hf hmr hod (by omega)) rfl rfl ps_0 (by decide) (by decide) ⟨Nat.le_of_ble_eq_true rfl, Nat.le_of_ble_eq_true rfl⟩ ⟨Nat.le_of_ble_eq_true rfl, Nat.le_of_ble_eq_true rfl⟩ rfl rfl (Nat.le_of_ble_eq_true rfl) ?_
  exact e_iret dX3_decided_9 rfl rfl (Nat.le_of_ble_eq_true rfl) (Nat.le_of_ble_eq_true rfl) rfl rfl
theorem s_decided_nr {l : Launch} (hf : l.stackTraces = false) {M : pmM} {od : Nat → Nat} (hmr : M.2.1 = mrC od) (hod : ∀ p, p < 8 → od p < 8) {rc : Nat} (hrc : M.1 0 3 = nI rc) (h8 : rc ≤ 8) {x : Int32} (hn : ∀ q, q < rc → M.1 (31 + 3 * od q) 0 ≠ x) : Sp l kX3_decided 64 13 1 6 [.ref 0, .int x] M (.inr "java/util/NoSuchElementException") M := by
  refine sp_of hf (by decide +kernel) (Nat.le_of_ble_eq_true rfl) (by intro v hv; simp at hv; rcases hv with rfl | rfl <;> rfl) rfl ?_
  refine e_aload_0 dX3_decided_0 rfl ?_
  refine e_aload_0 dX3_decided_1 rfl ?_
  refine e_iload_1 dX3_decided_2 rfl ?_
  exact e_callV_x dX3_decided_3 csX3_156 (s_requireRule_no hf hmr hod hrc h8 hn) rfl rfl ps_0 (by decide) (by decide) ⟨Nat.le_of_ble_eq_true rfl, Nat.le_of_ble_eq_true rfl⟩ ⟨Nat.le_of_ble_eq_true rfl, Nat.le_of_ble_eq_true rfl⟩ (Nat.le_of_ble_eq_true rfl) rfl ⟨Nat.le_of_ble_eq_true rfl, Nat.le_of_ble_eq_true rfl⟩
theorem s_isShadowed_ok {l : Launch} (hf : l.stackTraces = false) {M : pmM} {od : Nat → Nat} (hmr : M.2.1 = mrC od) (hod : ∀ p, p < 8 → od p < 8) {rc : Nat} (hrc : M.1 0 3 = nI rc) (h8 : rc ≤ 8) {x : Int32} {p : Nat} (hp : p < rc) (hx : M.1 (31 + 3 * od p) 0 = x) (hn : ∀ q, q < p → M.1 (31 + 3 * od q) 0 ≠ x) : Sp l kX3_isShadowed 64 14 1 6 [.ref 0, .int x] M (.inl (some (.int (bI (shF M od p))))) M := by
  refine sp_of hf (by decide +kernel) (Nat.le_of_ble_eq_true rfl) (by intro v hv; simp at hv; rcases hv with rfl | rfl <;> rfl) rfl ?_
  refine e_aload_0 dX3_isShadowed_0 rfl ?_
  refine e_aload_0 dX3_isShadowed_1 rfl ?_
  refine e_iload_1 dX3_isShadowed_2 rfl ?_
  refine e_callV dX3_isShadowed_3 rfl csX3_156 (s_requireRule_ok hf hmr hod hrc h8 hp hx hn) rfl rfl ps_0 (by decide) (by decide) ⟨Nat.le_of_ble_eq_true rfl, Nat.le_of_ble_eq_true rfl⟩ ⟨Nat.le_of_ble_eq_true rfl, Nat.le_of_ble_eq_true rfl⟩ rfl rfl (Nat.le_of_ble_eq_true rfl) ?_
  refine e_callV dX3_isShadowed_6 rfl csX3_219 (s_isShadowedAt hf hmr hod (by omega)) rfl rfl ps_0 (by decide) (by decide) ⟨Nat.le_of_ble_eq_true rfl, Nat.le_of_ble_eq_true rfl⟩ ⟨Nat.le_of_ble_eq_true rfl, Nat.le_of_ble_eq_true rfl⟩ rfl rfl (Nat.le_of_ble_eq_true rfl) ?_
  exact e_iret dX3_isShadowed_9 rfl (bI_nar _) (Nat.le_of_ble_eq_true rfl) (Nat.le_of_ble_eq_true rfl) rfl rfl
theorem s_isShadowed_nr {l : Launch} (hf : l.stackTraces = false) {M : pmM} {od : Nat → Nat} (hmr : M.2.1 = mrC od) (hod : ∀ p, p < 8 → od p < 8) {rc : Nat} (hrc : M.1 0 3 = nI rc) (h8 : rc ≤ 8) {x : Int32} (hn : ∀ q, q < rc → M.1 (31 + 3 * od q) 0 ≠ x) : Sp l kX3_isShadowed 64 14 1 6 [.ref 0, .int x] M (.inr "java/util/NoSuchElementException") M := by
  refine sp_of hf (by decide +kernel) (Nat.le_of_ble_eq_true rfl) (by intro v hv; simp at hv; rcases hv with rfl | rfl <;> rfl) rfl ?_
  refine e_aload_0 dX3_isShadowed_0 rfl ?_
  refine e_aload_0 dX3_isShadowed_1 rfl ?_
  refine e_iload_1 dX3_isShadowed_2 rfl ?_
  exact e_callV_x dX3_isShadowed_3 csX3_156 (s_requireRule_no hf hmr hod hrc h8 hn) rfl rfl ps_0 (by decide) (by decide) ⟨Nat.le_of_ble_eq_true rfl, Nat.le_of_ble_eq_true rfl⟩ ⟨Nat.le_of_ble_eq_true rfl, Nat.le_of_ble_eq_true rfl⟩ (Nat.le_of_ble_eq_true rfl) rfl ⟨Nat.le_of_ble_eq_true rfl, Nat.le_of_ble_eq_true rfl⟩
theorem s_decidedBySamples_ok {l : Launch} (hf : l.stackTraces = false) {M : pmM} {od : Nat → Nat} (hmr : M.2.1 = mrC od) (hod : ∀ p, p < 8 → od p < 8) {rc : Nat} (hrc : M.1 0 3 = nI rc) (h8 : rc ≤ 8) (hfo : ∀ p f, p < rc → f < 3 → fOk (M.1 (32 + 3 * od p) f)) {x : Int32} {p : Nat} (hp : p < rc) (hx : M.1 (31 + 3 * od p) 0 = x) (hn : ∀ q, q < p → M.1 (31 + 3 * od q) 0 ≠ x) : Sp l kX3_decidedBySamples 64 13 1 6 [.ref 0, .int x] M (.inl (some (.int ((tdM od rc (-1) (nI 0) M).1 (6 + p) p)))) (tdM od rc (-1) (nI 0) M) := by
  refine sp_of hf (by decide +kernel) (Nat.le_of_ble_eq_true rfl) (by intro v hv; simp at hv; rcases hv with rfl | rfl <;> rfl) rfl ?_
  refine e_aload_0 dX3_decidedBySamples_0 rfl ?_
  refine e_iload_1 dX3_decidedBySamples_1 rfl ?_
  refine e_callV dX3_decidedBySamples_2 rfl csX3_156 (s_requireRule_ok hf hmr hod hrc h8 hp hx hn) rfl rfl ps_0 (by decide) (by decide) ⟨Nat.le_of_ble_eq_true rfl, Nat.le_of_ble_eq_true rfl⟩ ⟨Nat.le_of_ble_eq_true rfl, Nat.le_of_ble_eq_true rfl⟩ rfl rfl (Nat.le_of_ble_eq_true rfl) ?_
  refine e_istore_2 dX3_decidedBySamples_5 rfl (Nat.le_of_ble_eq_true rfl) rfl ?_
  refine e_aload_0 dX3_decidedBySamples_6 rfl ?_
  refine e_iconst (v := -1) dX3_decidedBySamples_7 rfl ic_m1 ?_
  refine e_iconst (v := nI 0) dX3_decidedBySamples_8 rfl ic_0 ?_
  refine e_callV dX3_decidedBySamples_9 rfl csX3_216 (s_tallyDeciders (ob := -1) (fv := nI 0) hf hmr hod hrc h8 hfo (Or.inl rfl)) rfl rfl ps_0 (by decide) (by decide) ⟨Nat.le_of_ble_eq_true rfl, Nat.le_of_ble_eq_true rfl⟩ ⟨Nat.le_of_ble_eq_true rfl, Nat.le_of_ble_eq_true rfl⟩ rfl rfl (Nat.le_of_ble_eq_true rfl) ?_
  have hT := (tdM_SX od rc (-1) (nI 0) M).mr hmr
  generalize tdM od rc (-1) (nI 0) M = T at hT ⊢
  refine e_aload_0 dX3_decidedBySamples_12 rfl ?_
  refine e_getR dX3_decidedBySamples_13 rfl lkX3_33 rfl ps_0 (by decide) (by decide) (mr_of hT rfl) ?_
  refine e_iload_2 dX3_decidedBySamples_16 rfl ?_
  refine e_aald dX3_decidedBySamples_17 rfl ps_5 (by decide) (by decide) (by decide) rfl (by omega) (mr_of hT (mr_tally _ _)) ?_
  refine e_iload_2 dX3_decidedBySamples_18 rfl ?_
  refine e_iald dX3_decidedBySamples_19 rfl (ps_T (by omega)) (lt_TR (by omega)) rfl (by omega) ?_
  exact e_iret dX3_decidedBySamples_20 rfl rfl (Nat.le_of_ble_eq_true rfl) (Nat.le_of_ble_eq_true rfl) rfl rfl
theorem s_decidedBySamples_nr {l : Launch} (hf : l.stackTraces = false) {M : pmM} {od : Nat → Nat} (hmr : M.2.1 = mrC od) (hod : ∀ p, p < 8 → od p < 8) {rc : Nat} (hrc : M.1 0 3 = nI rc) (h8 : rc ≤ 8) {x : Int32} (hn : ∀ q, q < rc → M.1 (31 + 3 * od q) 0 ≠ x) : Sp l kX3_decidedBySamples 64 13 1 6 [.ref 0, .int x] M (.inr "java/util/NoSuchElementException") M := by
  refine sp_of hf (by decide +kernel) (Nat.le_of_ble_eq_true rfl) (by intro v hv; simp at hv; rcases hv with rfl | rfl <;> rfl) rfl ?_
  refine e_aload_0 dX3_decidedBySamples_0 rfl ?_
  refine e_iload_1 dX3_decidedBySamples_1 rfl ?_
  exact e_callV_x dX3_decidedBySamples_2 csX3_156 (s_requireRule_no hf hmr hod hrc h8 hn) rfl rfl ps_0 (by decide) (by decide) ⟨Nat.le_of_ble_eq_true rfl, Nat.le_of_ble_eq_true rfl⟩ ⟨Nat.le_of_ble_eq_true rfl, Nat.le_of_ble_eq_true rfl⟩ (Nat.le_of_ble_eq_true rfl) rfl ⟨Nat.le_of_ble_eq_true rfl, Nat.le_of_ble_eq_true rfl⟩
theorem mainShadow_loop {l : Launch} {M : pmM} {od : Nat → Nat} {rc : Nat} (hf : l.stackTraces = false) (hmr : M.2.1 = mrC od) (hod : ∀ p, p < 8 → od p < 8) (h8 : rc ≤ 8) {p : Nat} (hp : p < rc) {G : pmG} {x : Int32} (kk : Ev l kX3_mainShadow G (rmd 3 2 12) 64 1 6 82 [some (.ref 0), some (.int x), some (.int (nI p)), some (.int (msF M od p p).1), some (.int (msF M od p p).2), none, none] [] M) : Ev l kX3_mainShadow G (rmd 3 2 12) 64 1 6 14 [some (.ref 0), some (.int x), some (.int (nI p)), some (.int (nI 0)), some (.int (-1)), some (.int (nI 0)), none] [] M := by
  refine loop_up (P := fun i => Ev l kX3_mainShadow G (rmd 3 2 12) 64 1 6 14 [some (.ref 0), some (.int x), some (.int (nI p)), some (.int (msF M od p i).1), some (.int (msF M od p i).2), some (.int (nI i)), none] [] M) ?_ (fun i hi ih => ?_) 0 (Nat.zero_le p)
  · refine e_iload_5 dX3_mainShadow_14 rfl ?_
    refine e_iload_2 dX3_mainShadow_16 rfl ?_
    refine e_nc_ge_t (tgt := 82) dX3_mainShadow_17 (by decide) (by omega) (by omega) (Nat.le_refl _) ?_
    refine e_weak (weak_c (weak_c (weak_c (weak_c (weak_c (weak_n weak_nil)))))) ?_
    exact kk
  · cases h1 : inF M od i with
    | true =>
      by_cases h2 : (msF M od p i).1 < pbE M (od i) (od p)
      · refine e_iload_5 dX3_mainShadow_14 rfl ?_
        refine e_iload_2 dX3_mainShadow_16 rfl ?_
        refine e_nc_ge_f dX3_mainShadow_17 rfl ⟨82, by decide⟩ (by omega) (by omega) hi ?_
        refine e_aload_0 dX3_mainShadow_20 rfl ?_
        refine e_getR dX3_mainShadow_21 rfl lkX3_17 rfl ps_0 (by decide) (by decide) (mr_of hmr rfl) ?_
        refine e_iload_5 dX3_mainShadow_24 rfl ?_
        refine e_aald dX3_mainShadow_26 rfl ps_2 (by decide) (by decide) (by decide) rfl (by omega) (mr_of hmr (mr_order _ _)) ?_
        refine e_aload_0 dX3_mainShadow_27 rfl ?_
        refine e_getR dX3_mainShadow_28 rfl lkX3_17 rfl ps_0 (by decide) (by decide) (mr_of hmr rfl) ?_
        refine e_iload_2 dX3_mainShadow_31 rfl ?_
        refine e_aald dX3_mainShadow_32 rfl ps_2 (by decide) (by decide) (by decide) rfl (by omega) (mr_of hmr (mr_order _ _)) ?_
        refine e_callS dX3_mainShadow_33 rfl csX3_209 (s_packetsInBoth hf hmr (hod _ (by omega)) (hod _ (by omega))) rfl rfl ⟨Nat.le_of_ble_eq_true rfl, Nat.le_of_ble_eq_true rfl⟩ ⟨Nat.le_of_ble_eq_true rfl, Nat.le_of_ble_eq_true rfl⟩ rfl rfl (Nat.le_of_ble_eq_true rfl) ?_
        refine e_istore_6 dX3_mainShadow_36 rfl (Nat.le_of_ble_eq_true rfl) rfl ?_
        refine e_aload_0 dX3_mainShadow_38 rfl ?_
        refine e_getR dX3_mainShadow_39 rfl lkX3_17 rfl ps_0 (by decide) (by decide) (mr_of hmr rfl) ?_
        refine e_iload_5 dX3_mainShadow_42 rfl ?_
        refine e_aald dX3_mainShadow_44 rfl ps_2 (by decide) (by decide) (by decide) rfl (by omega) (mr_of hmr (mr_order _ _)) ?_
        refine e_aload_0 dX3_mainShadow_45 rfl ?_
        refine e_getI dX3_mainShadow_46 rfl lkX3_143 rfl ps_0 (by decide) (by decide) ?_
        refine e_callN dX3_mainShadow_49 rfl csX3_170 (s_lastsOn hf (hod _ (by omega))) rfl rfl (ps_R (hod _ (by omega))) (by decide) (lt_RU (hod _ (by omega))) ⟨Nat.le_of_ble_eq_true rfl, Nat.le_of_ble_eq_true rfl⟩ ⟨Nat.le_of_ble_eq_true rfl, Nat.le_of_ble_eq_true rfl⟩ rfl rfl (Nat.le_of_ble_eq_true rfl) ?_
        refine e_if_eq_f dX3_mainShadow_52 rfl ⟨76, by decide⟩ (bI1 h1) ?_
        refine e_iload_6 dX3_mainShadow_55 rfl ?_
        refine e_iload_3 dX3_mainShadow_57 rfl ?_
        refine e_ic_le_f dX3_mainShadow_58 rfl ⟨76, by decide⟩ (Int32.not_le.mpr h2) ?_
        refine e_iload_6 dX3_mainShadow_61 rfl ?_
        refine e_istore_3 dX3_mainShadow_63 rfl (Nat.le_of_ble_eq_true rfl) rfl ?_
        refine e_aload_0 dX3_mainShadow_64 rfl ?_
        refine e_getR dX3_mainShadow_65 rfl lkX3_17 rfl ps_0 (by decide) (by decide) (mr_of hmr rfl) ?_
        refine e_iload_5 dX3_mainShadow_68 rfl ?_
        refine e_aald dX3_mainShadow_70 rfl ps_2 (by decide) (by decide) (by decide) rfl (by omega) (mr_of hmr (mr_order _ _)) ?_
        refine e_getI dX3_mainShadow_71 rfl lkX3_153 rfl (ps_R (hod _ (by omega))) (by decide) (lt_RU (hod _ (by omega))) ?_
        refine e_istore_4 dX3_mainShadow_74 rfl (Nat.le_of_ble_eq_true rfl) rfl ?_
        refine e_iinc_5 (v := nI (i + 1)) dX3_mainShadow_76 rfl (Nat.le_of_ble_eq_true rfl) rfl (nI_1 i) ?_
        refine e_goto (tgt := 14) dX3_mainShadow_79 (by decide) ?_
        refine e_weak (weak_c (weak_c (weak_c (weak_c (weak_c (weak_c (weak_n weak_nil))))))) ?_
        refine e_loc ?_ ih
        rw [msF, if_pos ⟨h1, h2⟩]
      · refine e_iload_5 dX3_mainShadow_14 rfl ?_
        refine e_iload_2 dX3_mainShadow_16 rfl ?_
        refine e_nc_ge_f dX3_mainShadow_17 rfl ⟨82, by decide⟩ (by omega) (by omega) hi ?_
        refine e_aload_0 dX3_mainShadow_20 rfl ?_
        refine e_getR dX3_mainShadow_21 rfl lkX3_17 rfl ps_0 (by decide) (by decide) (mr_of hmr rfl) ?_
        refine e_iload_5 dX3_mainShadow_24 rfl ?_
        refine e_aald dX3_mainShadow_26 rfl ps_2 (by decide) (by decide) (by decide) rfl (by omega) (mr_of hmr (mr_order _ _)) ?_
        refine e_aload_0 dX3_mainShadow_27 rfl ?_
        refine e_getR dX3_mainShadow_28 rfl lkX3_17 rfl ps_0 (by decide) (by decide) (mr_of hmr rfl) ?_
        refine e_iload_2 dX3_mainShadow_31 rfl ?_
        refine e_aald dX3_mainShadow_32 rfl ps_2 (by decide) (by decide) (by decide) rfl (by omega) (mr_of hmr (mr_order _ _)) ?_
        refine e_callS dX3_mainShadow_33 rfl csX3_209 (s_packetsInBoth hf hmr (hod _ (by omega)) (hod _ (by omega))) rfl rfl ⟨Nat.le_of_ble_eq_true rfl, Nat.le_of_ble_eq_true rfl⟩ ⟨Nat.le_of_ble_eq_true rfl, Nat.le_of_ble_eq_true rfl⟩ rfl rfl (Nat.le_of_ble_eq_true rfl) ?_
        refine e_istore_6 dX3_mainShadow_36 rfl (Nat.le_of_ble_eq_true rfl) rfl ?_
        refine e_aload_0 dX3_mainShadow_38 rfl ?_
        refine e_getR dX3_mainShadow_39 rfl lkX3_17 rfl ps_0 (by decide) (by decide) (mr_of hmr rfl) ?_
        refine e_iload_5 dX3_mainShadow_42 rfl ?_
        refine e_aald dX3_mainShadow_44 rfl ps_2 (by decide) (by decide) (by decide) rfl (by omega) (mr_of hmr (mr_order _ _)) ?_
        refine e_aload_0 dX3_mainShadow_45 rfl ?_
        refine e_getI dX3_mainShadow_46 rfl lkX3_143 rfl ps_0 (by decide) (by decide) ?_
        refine e_callN dX3_mainShadow_49 rfl csX3_170 (s_lastsOn hf (hod _ (by omega))) rfl rfl (ps_R (hod _ (by omega))) (by decide) (lt_RU (hod _ (by omega))) ⟨Nat.le_of_ble_eq_true rfl, Nat.le_of_ble_eq_true rfl⟩ ⟨Nat.le_of_ble_eq_true rfl, Nat.le_of_ble_eq_true rfl⟩ rfl rfl (Nat.le_of_ble_eq_true rfl) ?_
        refine e_if_eq_f dX3_mainShadow_52 rfl ⟨76, by decide⟩ (bI1 h1) ?_
        refine e_iload_6 dX3_mainShadow_55 rfl ?_
        refine e_iload_3 dX3_mainShadow_57 rfl ?_
        refine e_ic_le_t (tgt := 76) dX3_mainShadow_58 (by decide) (Int32.not_lt.mp h2) ?_
        refine e_iinc_5 (v := nI (i + 1)) dX3_mainShadow_76 rfl (Nat.le_of_ble_eq_true rfl) rfl (nI_1 i) ?_
        refine e_goto (tgt := 14) dX3_mainShadow_79 (by decide) ?_
        refine e_weak (weak_c (weak_c (weak_c (weak_c (weak_c (weak_c (weak_n weak_nil))))))) ?_
        refine e_loc ?_ ih
        rw [msF, if_neg (fun q => h2 q.2)]
    | false =>
      refine e_iload_5 dX3_mainShadow_14 rfl ?_
      refine e_iload_2 dX3_mainShadow_16 rfl ?_
      refine e_nc_ge_f dX3_mainShadow_17 rfl ⟨82, by decide⟩ (by omega) (by omega) hi ?_
      refine e_aload_0 dX3_mainShadow_20 rfl ?_
      refine e_getR dX3_mainShadow_21 rfl lkX3_17 rfl ps_0 (by decide) (by decide) (mr_of hmr rfl) ?_
      refine e_iload_5 dX3_mainShadow_24 rfl ?_
      refine e_aald dX3_mainShadow_26 rfl ps_2 (by decide) (by decide) (by decide) rfl (by omega) (mr_of hmr (mr_order _ _)) ?_
      refine e_aload_0 dX3_mainShadow_27 rfl ?_
      refine e_getR dX3_mainShadow_28 rfl lkX3_17 rfl ps_0 (by decide) (by decide) (mr_of hmr rfl) ?_
      refine e_iload_2 dX3_mainShadow_31 rfl ?_
      refine e_aald dX3_mainShadow_32 rfl ps_2 (by decide) (by decide) (by decide) rfl (by omega) (mr_of hmr (mr_order _ _)) ?_
      refine e_callS dX3_mainShadow_33 rfl csX3_209 (s_packetsInBoth hf hmr (hod _ (by omega)) (hod _ (by omega))) rfl rfl ⟨Nat.le_of_ble_eq_true rfl, Nat.le_of_ble_eq_true rfl⟩ ⟨Nat.le_of_ble_eq_true rfl, Nat.le_of_ble_eq_true rfl⟩ rfl rfl (Nat.le_of_ble_eq_true rfl) ?_
      refine e_istore_6 dX3_mainShadow_36 rfl (Nat.le_of_ble_eq_true rfl) rfl ?_
      refine e_aload_0 dX3_mainShadow_38 rfl ?_
      refine e_getR dX3_mainShadow_39 rfl lkX3_17 rfl ps_0 (by decide) (by decide) (mr_of hmr rfl) ?_
      refine e_iload_5 dX3_mainShadow_42 rfl ?_
      refine e_aald dX3_mainShadow_44 rfl ps_2 (by decide) (by decide) (by decide) rfl (by omega) (mr_of hmr (mr_order _ _)) ?_
      refine e_aload_0 dX3_mainShadow_45 rfl ?_
      refine e_getI dX3_mainShadow_46 rfl lkX3_143 rfl ps_0 (by decide) (by decide) ?_
      refine e_callN dX3_mainShadow_49 rfl csX3_170 (s_lastsOn hf (hod _ (by omega))) rfl rfl (ps_R (hod _ (by omega))) (by decide) (lt_RU (hod _ (by omega))) ⟨Nat.le_of_ble_eq_true rfl, Nat.le_of_ble_eq_true rfl⟩ ⟨Nat.le_of_ble_eq_true rfl, Nat.le_of_ble_eq_true rfl⟩ rfl rfl (Nat.le_of_ble_eq_true rfl) ?_
      refine e_if_eq_t (tgt := 76) dX3_mainShadow_52 (by decide) (bI0 h1) ?_
      refine e_iinc_5 (v := nI (i + 1)) dX3_mainShadow_76 rfl (Nat.le_of_ble_eq_true rfl) rfl (nI_1 i) ?_
      refine e_goto (tgt := 14) dX3_mainShadow_79 (by decide) ?_
      refine e_weak (weak_c (weak_c (weak_c (weak_c (weak_c (weak_c (weak_n weak_nil))))))) ?_
      refine e_loc ?_ ih
      rw [msF, if_neg (fun q => by rw [h1] at q; exact Bool.noConfusion q.1)]
theorem s_mainShadow_ok {l : Launch} (hf : l.stackTraces = false) {M : pmM} {od : Nat → Nat} (hmr : M.2.1 = mrC od) (hod : ∀ p, p < 8 → od p < 8) {rc : Nat} (hrc : M.1 0 3 = nI rc) (h8 : rc ≤ 8) {x : Int32} {p : Nat} (hp : p < rc) (hx : M.1 (31 + 3 * od p) 0 = x) (hn : ∀ q, q < p → M.1 (31 + 3 * od q) 0 ≠ x) (hz : ¬ (msF M od p p).1 = 0) : Sp l kX3_mainShadow 64 3 2 12 [.ref 0, .int x] M (.inl (some (.int (msF M od p p).2))) M := by
  refine sp_of hf (by decide +kernel) (Nat.le_of_ble_eq_true rfl) (by intro v hv; simp at hv; rcases hv with rfl | rfl <;> rfl) rfl ?_
  refine e_aload_0 dX3_mainShadow_0 rfl ?_
  refine e_iload_1 dX3_mainShadow_1 rfl ?_
  refine e_callV dX3_mainShadow_2 rfl csX3_156 (s_requireRule_ok hf hmr hod hrc h8 hp hx hn) rfl rfl ps_0 (by decide) (by decide) ⟨Nat.le_of_ble_eq_true rfl, Nat.le_of_ble_eq_true rfl⟩ ⟨Nat.le_of_ble_eq_true rfl, Nat.le_of_ble_eq_true rfl⟩ rfl rfl (Nat.le_of_ble_eq_true rfl) ?_
  refine e_istore_2 dX3_mainShadow_5 rfl (Nat.le_of_ble_eq_true rfl) rfl ?_
  refine e_iconst (v := nI 0) dX3_mainShadow_6 rfl ic_0 ?_
  refine e_istore_3 dX3_mainShadow_7 rfl (Nat.le_of_ble_eq_true rfl) rfl ?_
  refine e_iconst (v := -1) dX3_mainShadow_8 rfl ic_m1 ?_
  refine e_istore_4 dX3_mainShadow_9 rfl (Nat.le_of_ble_eq_true rfl) rfl ?_
  refine e_iconst (v := nI 0) dX3_mainShadow_11 rfl ic_0 ?_
  refine e_istore_5 dX3_mainShadow_12 rfl (Nat.le_of_ble_eq_true rfl) rfl ?_
  refine mainShadow_loop hf hmr hod h8 hp ?_
  refine e_iload_3 dX3_mainShadow_82 rfl ?_
  refine e_if_ne_t (tgt := 96) dX3_mainShadow_83 (by decide) hz ?_
  refine e_iload_4 dX3_mainShadow_96 rfl ?_
  exact e_iret dX3_mainShadow_98 rfl rfl (Nat.le_of_ble_eq_true rfl) (Nat.le_of_ble_eq_true rfl) rfl rfl
theorem s_mainShadow_no {l : Launch} (hf : l.stackTraces = false) {M : pmM} {od : Nat → Nat} (hmr : M.2.1 = mrC od) (hod : ∀ p, p < 8 → od p < 8) {rc : Nat} (hrc : M.1 0 3 = nI rc) (h8 : rc ≤ 8) {x : Int32} {p : Nat} (hp : p < rc) (hx : M.1 (31 + 3 * od p) 0 = x) (hn : ∀ q, q < p → M.1 (31 + 3 * od q) 0 ≠ x) (hz : (msF M od p p).1 = 0) : Sp l kX3_mainShadow 64 3 2 12 [.ref 0, .int x] M (.inr "java/util/NoSuchElementException") M := by
  refine sp_of hf (by decide +kernel) (Nat.le_of_ble_eq_true rfl) (by intro v hv; simp at hv; rcases hv with rfl | rfl <;> rfl) rfl ?_
  refine e_aload_0 dX3_mainShadow_0 rfl ?_
  refine e_iload_1 dX3_mainShadow_1 rfl ?_
  refine e_callV dX3_mainShadow_2 rfl csX3_156 (s_requireRule_ok hf hmr hod hrc h8 hp hx hn) rfl rfl ps_0 (by decide) (by decide) ⟨Nat.le_of_ble_eq_true rfl, Nat.le_of_ble_eq_true rfl⟩ ⟨Nat.le_of_ble_eq_true rfl, Nat.le_of_ble_eq_true rfl⟩ rfl rfl (Nat.le_of_ble_eq_true rfl) ?_
  refine e_istore_2 dX3_mainShadow_5 rfl (Nat.le_of_ble_eq_true rfl) rfl ?_
  refine e_iconst (v := nI 0) dX3_mainShadow_6 rfl ic_0 ?_
  refine e_istore_3 dX3_mainShadow_7 rfl (Nat.le_of_ble_eq_true rfl) rfl ?_
  refine e_iconst (v := -1) dX3_mainShadow_8 rfl ic_m1 ?_
  refine e_istore_4 dX3_mainShadow_9 rfl (Nat.le_of_ble_eq_true rfl) rfl ?_
  refine e_iconst (v := nI 0) dX3_mainShadow_11 rfl ic_0 ?_
  refine e_istore_5 dX3_mainShadow_12 rfl (Nat.le_of_ble_eq_true rfl) rfl ?_
  refine mainShadow_loop hf hmr hod h8 hp ?_
  refine e_iload_3 dX3_mainShadow_82 rfl ?_
  refine e_if_ne_f dX3_mainShadow_83 rfl ⟨96, by decide⟩ hz ?_
  exact e_throwN dX3_mainShadow_86 dX3_mainShadow_89 dX3_mainShadow_90 dX3_mainShadow_92 dX3_mainShadow_95 th_104_222_108 rfl ⟨Nat.le_of_ble_eq_true rfl, Nat.le_of_ble_eq_true rfl⟩ (Nat.le_of_ble_eq_true rfl) ⟨Nat.le_of_ble_eq_true rfl, Nat.le_of_ble_eq_true rfl⟩ ⟨Nat.le_of_ble_eq_true rfl, Nat.le_of_ble_eq_true rfl⟩ rfl
theorem s_mainShadow_nr {l : Launch} (hf : l.stackTraces = false) {M : pmM} {od : Nat → Nat} (hmr : M.2.1 = mrC od) (hod : ∀ p, p < 8 → od p < 8) {rc : Nat} (hrc : M.1 0 3 = nI rc) (h8 : rc ≤ 8) {x : Int32} (hn : ∀ q, q < rc → M.1 (31 + 3 * od q) 0 ≠ x) : Sp l kX3_mainShadow 64 3 2 12 [.ref 0, .int x] M (.inr "java/util/NoSuchElementException") M := by
  refine sp_of hf (by decide +kernel) (Nat.le_of_ble_eq_true rfl) (by intro v hv; simp at hv; rcases hv with rfl | rfl <;> rfl) rfl ?_
  refine e_aload_0 dX3_mainShadow_0 rfl ?_
  refine e_iload_1 dX3_mainShadow_1 rfl ?_
  exact e_callV_x dX3_mainShadow_2 csX3_156 (s_requireRule_no hf hmr hod hrc h8 hn) rfl rfl ps_0 (by decide) (by decide) ⟨Nat.le_of_ble_eq_true rfl, Nat.le_of_ble_eq_true rfl⟩ ⟨Nat.le_of_ble_eq_true rfl, Nat.le_of_ble_eq_true rfl⟩ (Nat.le_of_ble_eq_true rfl) rfl ⟨Nat.le_of_ble_eq_true rfl, Nat.le_of_ble_eq_true rfl⟩
theorem s_accepted {l : Launch} (hf : l.stackTraces = false) {M : pmM} {od : Nat → Nat} (hmr : M.2.1 = mrC od) (hod : ∀ p, p < 8 → od p < 8) {rc : Nat} (hrc : M.1 0 3 = nI rc) (h8 : rc ≤ 8) : Sp l kX3_accepted 64 13 0 0 [.ref 0] M (.inl (some (.int (acS M od rc)))) M := by
  refine sp_of hf (by decide +kernel) (Nat.le_of_ble_eq_true rfl) (by intro v hv; simp at hv; subst hv; rfl) rfl ?_
  refine e_iconst (v := nI 0) dX3_accepted_0 rfl ic_0 ?_
  refine e_istore_1 dX3_accepted_1 rfl (Nat.le_of_ble_eq_true rfl) rfl ?_
  refine e_iconst (v := nI 0) dX3_accepted_2 rfl ic_0 ?_
  refine e_istore_2 dX3_accepted_3 rfl (Nat.le_of_ble_eq_true rfl) rfl ?_
  refine loop_up (P := fun i => Ev l kX3_accepted (gM 64 0 0 (.inl (some (.int (acS M od rc)))) M) (rmd 13 0 0) 64 0 0 4 [some (.ref 0), some (.int (acS M od i)), some (.int (nI i))] [] M) ?_ (fun i hi ih => ?_) 0 (Nat.zero_le rc)
  · refine e_iload_2 dX3_accepted_4 rfl ?_
    refine e_aload_0 dX3_accepted_5 rfl ?_
    refine e_getI dX3_accepted_6 rfl lkX3_116 rfl ps_0 (by decide) (by decide) ?_
    refine e_topi (nI rc) hrc ?_
    refine e_nc_ge_t (tgt := 40) dX3_accepted_9 (by decide) (by omega) (by omega) (Nat.le_refl _) ?_
    refine e_iload_1 dX3_accepted_40 rfl ?_
    exact e_iret dX3_accepted_41 rfl rfl (Nat.le_of_ble_eq_true rfl) (Nat.le_of_ble_eq_true rfl) rfl rfl
  · by_cases h1 : M.1 (31 + 3 * od i) 1 = nI 97
    · refine e_iload_2 dX3_accepted_4 rfl ?_
      refine e_aload_0 dX3_accepted_5 rfl ?_
      refine e_getI dX3_accepted_6 rfl lkX3_116 rfl ps_0 (by decide) (by decide) ?_
      refine e_topi (nI rc) hrc ?_
      refine e_nc_ge_f dX3_accepted_9 rfl ⟨40, by decide⟩ (by omega) (by omega) hi ?_
      refine e_aload_0 dX3_accepted_12 rfl ?_
      refine e_getR dX3_accepted_13 rfl lkX3_17 rfl ps_0 (by decide) (by decide) (mr_of hmr rfl) ?_
      refine e_iload_2 dX3_accepted_16 rfl ?_
      refine e_aald dX3_accepted_17 rfl ps_2 (by decide) (by decide) (by decide) rfl (by omega) (mr_of hmr (mr_order _ _)) ?_
      refine e_getI dX3_accepted_18 rfl lkX3_191 rfl (ps_R (hod _ (by omega))) (by decide) (lt_RU (hod _ (by omega))) ?_
      refine e_bipush (v := nI 97) dX3_accepted_21 rfl bc_97 ?_
      refine e_ic_ne_f dX3_accepted_23 rfl ⟨34, by decide⟩ h1 ?_
      refine e_iload_1 dX3_accepted_26 rfl ?_
      refine e_aload_0 dX3_accepted_27 rfl ?_
      refine e_iload_2 dX3_accepted_28 rfl ?_
      refine e_callV dX3_accepted_29 rfl csX3_213 (s_decidedAt hf hmr hod (by omega)) rfl rfl ps_0 (by decide) (by decide) ⟨Nat.le_of_ble_eq_true rfl, Nat.le_of_ble_eq_true rfl⟩ ⟨Nat.le_of_ble_eq_true rfl, Nat.le_of_ble_eq_true rfl⟩ rfl rfl (Nat.le_of_ble_eq_true rfl) ?_
      refine e_iadd dX3_accepted_32 rfl ?_
      refine e_istore_1 dX3_accepted_33 rfl (Nat.le_of_ble_eq_true rfl) rfl ?_
      refine e_iinc_2 (v := nI (i + 1)) dX3_accepted_34 rfl (Nat.le_of_ble_eq_true rfl) rfl (nI_1 i) ?_
      refine e_goto (tgt := 4) dX3_accepted_37 (by decide) ?_
      refine e_loc ?_ ih
      rw [acS, if_pos h1]
    · refine e_iload_2 dX3_accepted_4 rfl ?_
      refine e_aload_0 dX3_accepted_5 rfl ?_
      refine e_getI dX3_accepted_6 rfl lkX3_116 rfl ps_0 (by decide) (by decide) ?_
      refine e_topi (nI rc) hrc ?_
      refine e_nc_ge_f dX3_accepted_9 rfl ⟨40, by decide⟩ (by omega) (by omega) hi ?_
      refine e_aload_0 dX3_accepted_12 rfl ?_
      refine e_getR dX3_accepted_13 rfl lkX3_17 rfl ps_0 (by decide) (by decide) (mr_of hmr rfl) ?_
      refine e_iload_2 dX3_accepted_16 rfl ?_
      refine e_aald dX3_accepted_17 rfl ps_2 (by decide) (by decide) (by decide) rfl (by omega) (mr_of hmr (mr_order _ _)) ?_
      refine e_getI dX3_accepted_18 rfl lkX3_191 rfl (ps_R (hod _ (by omega))) (by decide) (lt_RU (hod _ (by omega))) ?_
      refine e_bipush (v := nI 97) dX3_accepted_21 rfl bc_97 ?_
      refine e_ic_ne_t (tgt := 34) dX3_accepted_23 (by decide) h1 ?_
      refine e_iinc_2 (v := nI (i + 1)) dX3_accepted_34 rfl (Nat.le_of_ble_eq_true rfl) rfl (nI_1 i) ?_
      refine e_goto (tgt := 4) dX3_accepted_37 (by decide) ?_
      refine e_loc ?_ ih
      rw [acS, if_neg h1]
theorem s_changedByMove_ok {l : Launch} (hf : l.stackTraces = false) {M : pmM} {od : Nat → Nat} (hmr : M.2.1 = mrC od) (hod : ∀ p, p < 8 → od p < 8) {rc : Nat} (hrc : M.1 0 3 = nI rc) (h8 : rc ≤ 8) {x : Int32} {p : Nat} (hp : p < rc) (hx : M.1 (31 + 3 * od p) 0 = x) (hn : ∀ q, q < p → M.1 (31 + 3 * od q) 0 ≠ x) {q : Nat} (hq : q < rc) : Sp l kX3_changedByMove 64 14 2 12 [.ref 0, .int x, .int (nI q)] M (.inl (some (.int (chE M od p q)))) M := by
  refine sp_of hf (by decide +kernel) (Nat.le_of_ble_eq_true rfl) (by intro v hv; simp at hv; rcases hv with rfl | rfl | rfl <;> rfl) rfl ?_
  refine e_aload_0 dX3_changedByMove_0 rfl ?_
  refine e_iload_1 dX3_changedByMove_1 rfl ?_
  refine e_callV dX3_changedByMove_2 rfl csX3_156 (s_requireRule_ok hf hmr hod hrc h8 hp hx hn) rfl rfl ps_0 (by decide) (by decide) ⟨Nat.le_of_ble_eq_true rfl, Nat.le_of_ble_eq_true rfl⟩ ⟨Nat.le_of_ble_eq_true rfl, Nat.le_of_ble_eq_true rfl⟩ rfl rfl (Nat.le_of_ble_eq_true rfl) ?_
  refine e_istore_3 dX3_changedByMove_5 rfl (Nat.le_of_ble_eq_true rfl) rfl ?_
  refine e_aload_0 dX3_changedByMove_6 rfl ?_
  refine e_iload_2 dX3_changedByMove_7 rfl ?_
  refine e_callV dX3_changedByMove_8 rfl csX3_167 (s_requirePosition_ok hf hrc h8 hq) rfl rfl ps_0 (by decide) (by decide) ⟨Nat.le_of_ble_eq_true rfl, Nat.le_of_ble_eq_true rfl⟩ ⟨Nat.le_of_ble_eq_true rfl, Nat.le_of_ble_eq_true rfl⟩ rfl rfl (Nat.le_of_ble_eq_true rfl) ?_
  refine e_aload_0 dX3_changedByMove_11 rfl ?_
  refine e_iload_3 dX3_changedByMove_12 rfl ?_
  refine e_iload_2 dX3_changedByMove_13 rfl ?_
  refine e_callV dX3_changedByMove_14 rfl csX3_224 (s_changedByShift hf hmr hod (by omega) (by omega)) rfl rfl ps_0 (by decide) (by decide) ⟨Nat.le_of_ble_eq_true rfl, Nat.le_of_ble_eq_true rfl⟩ ⟨Nat.le_of_ble_eq_true rfl, Nat.le_of_ble_eq_true rfl⟩ rfl rfl (Nat.le_of_ble_eq_true rfl) ?_
  exact e_iret dX3_changedByMove_17 rfl rfl (Nat.le_of_ble_eq_true rfl) (Nat.le_of_ble_eq_true rfl) rfl rfl
theorem s_changedByMove_no2 {l : Launch} (hf : l.stackTraces = false) {M : pmM} {od : Nat → Nat} (hmr : M.2.1 = mrC od) (hod : ∀ p, p < 8 → od p < 8) {rc : Nat} (hrc : M.1 0 3 = nI rc) (h8 : rc ≤ 8) {x : Int32} {p : Nat} (hp : p < rc) (hx : M.1 (31 + 3 * od p) 0 = x) (hn : ∀ q, q < p → M.1 (31 + 3 * od q) 0 ≠ x) {y : Int32} (hy : ¬ vp_in y rc) : Sp l kX3_changedByMove 64 14 2 12 [.ref 0, .int x, .int y] M (.inr "java/lang/IndexOutOfBoundsException") M := by
  refine sp_of hf (by decide +kernel) (Nat.le_of_ble_eq_true rfl) (by intro v hv; simp at hv; rcases hv with rfl | rfl | rfl <;> rfl) rfl ?_
  refine e_aload_0 dX3_changedByMove_0 rfl ?_
  refine e_iload_1 dX3_changedByMove_1 rfl ?_
  refine e_callV dX3_changedByMove_2 rfl csX3_156 (s_requireRule_ok hf hmr hod hrc h8 hp hx hn) rfl rfl ps_0 (by decide) (by decide) ⟨Nat.le_of_ble_eq_true rfl, Nat.le_of_ble_eq_true rfl⟩ ⟨Nat.le_of_ble_eq_true rfl, Nat.le_of_ble_eq_true rfl⟩ rfl rfl (Nat.le_of_ble_eq_true rfl) ?_
  refine e_istore_3 dX3_changedByMove_5 rfl (Nat.le_of_ble_eq_true rfl) rfl ?_
  refine e_aload_0 dX3_changedByMove_6 rfl ?_
  refine e_iload_2 dX3_changedByMove_7 rfl ?_
  exact e_callV_x dX3_changedByMove_8 csX3_167 (s_requirePosition_no hf hrc h8 hy) rfl rfl ps_0 (by decide) (by decide) ⟨Nat.le_of_ble_eq_true rfl, Nat.le_of_ble_eq_true rfl⟩ ⟨Nat.le_of_ble_eq_true rfl, Nat.le_of_ble_eq_true rfl⟩ (Nat.le_of_ble_eq_true rfl) rfl ⟨Nat.le_of_ble_eq_true rfl, Nat.le_of_ble_eq_true rfl⟩
theorem s_changedByMove_nr {l : Launch} (hf : l.stackTraces = false) {M : pmM} {od : Nat → Nat} (hmr : M.2.1 = mrC od) (hod : ∀ p, p < 8 → od p < 8) {rc : Nat} (hrc : M.1 0 3 = nI rc) (h8 : rc ≤ 8) {x : Int32} (hn : ∀ q, q < rc → M.1 (31 + 3 * od q) 0 ≠ x) {y : Int32} : Sp l kX3_changedByMove 64 14 2 12 [.ref 0, .int x, .int y] M (.inr "java/util/NoSuchElementException") M := by
  refine sp_of hf (by decide +kernel) (Nat.le_of_ble_eq_true rfl) (by intro v hv; simp at hv; rcases hv with rfl | rfl | rfl <;> rfl) rfl ?_
  refine e_aload_0 dX3_changedByMove_0 rfl ?_
  refine e_iload_1 dX3_changedByMove_1 rfl ?_
  exact e_callV_x dX3_changedByMove_2 csX3_156 (s_requireRule_no hf hmr hod hrc h8 hn) rfl rfl ps_0 (by decide) (by decide) ⟨Nat.le_of_ble_eq_true rfl, Nat.le_of_ble_eq_true rfl⟩ ⟨Nat.le_of_ble_eq_true rfl, Nat.le_of_ble_eq_true rfl⟩ (Nat.le_of_ble_eq_true rfl) rfl ⟨Nat.le_of_ble_eq_true rfl, Nat.le_of_ble_eq_true rfl⟩
theorem s_move_ok {l : Launch} (hf : l.stackTraces = false) {M : pmM} {od : Nat → Nat} (hmr : M.2.1 = mrC od) (hod : ∀ p, p < 8 → od p < 8) {rc : Nat} (hrc : M.1 0 3 = nI rc) (h8 : rc ≤ 8) {x : Int32} {p : Nat} (hp : p < rc) (hx : M.1 (31 + 3 * od p) 0 = x) (hn : ∀ q, q < p → M.1 (31 + 3 * od q) 0 ≠ x) {q : Nat} (hq : q < rc) (hz : chE M od p q = 0) : Sp l kX3_move 64 14 3 18 [.ref 0, .int x, .int (nI q)] M (.inl (some (.int (nI p)))) (odM M (shO od p q)) := by
  refine sp_of hf (by decide +kernel) (Nat.le_of_ble_eq_true rfl) (by intro v hv; simp at hv; rcases hv with rfl | rfl | rfl <;> rfl) rfl ?_
  refine e_aload_0 dX3_move_0 rfl ?_
  refine e_iload_1 dX3_move_1 rfl ?_
  refine e_callV dX3_move_2 rfl csX3_156 (s_requireRule_ok hf hmr hod hrc h8 hp hx hn) rfl rfl ps_0 (by decide) (by decide) ⟨Nat.le_of_ble_eq_true rfl, Nat.le_of_ble_eq_true rfl⟩ ⟨Nat.le_of_ble_eq_true rfl, Nat.le_of_ble_eq_true rfl⟩ rfl rfl (Nat.le_of_ble_eq_true rfl) ?_
  refine e_istore_3 dX3_move_5 rfl (Nat.le_of_ble_eq_true rfl) rfl ?_
  refine e_aload_0 dX3_move_6 rfl ?_
  refine e_iload_2 dX3_move_7 rfl ?_
  refine e_callV dX3_move_8 rfl csX3_167 (s_requirePosition_ok hf hrc h8 hq) rfl rfl ps_0 (by decide) (by decide) ⟨Nat.le_of_ble_eq_true rfl, Nat.le_of_ble_eq_true rfl⟩ ⟨Nat.le_of_ble_eq_true rfl, Nat.le_of_ble_eq_true rfl⟩ rfl rfl (Nat.le_of_ble_eq_true rfl) ?_
  refine e_aload_0 dX3_move_11 rfl ?_
  refine e_iload_3 dX3_move_12 rfl ?_
  refine e_iload_2 dX3_move_13 rfl ?_
  refine e_callV dX3_move_14 rfl csX3_224 (s_changedByShift hf hmr hod (by omega) (by omega)) rfl rfl ps_0 (by decide) (by decide) ⟨Nat.le_of_ble_eq_true rfl, Nat.le_of_ble_eq_true rfl⟩ ⟨Nat.le_of_ble_eq_true rfl, Nat.le_of_ble_eq_true rfl⟩ rfl rfl (Nat.le_of_ble_eq_true rfl) ?_
  refine e_if_eq_t (tgt := 30) dX3_move_17 (by decide) hz ?_
  refine e_aload_0 dX3_move_30 rfl ?_
  refine e_iload_3 dX3_move_31 rfl ?_
  refine e_iload_2 dX3_move_32 rfl ?_
  refine e_callV dX3_move_33 rfl csX3_150 (s_shift hf hmr hod (show p < 8 by omega) (show q < 8 by omega)) rfl rfl ps_0 (by decide) (by decide) ⟨Nat.le_of_ble_eq_true rfl, Nat.le_of_ble_eq_true rfl⟩ ⟨Nat.le_of_ble_eq_true rfl, Nat.le_of_ble_eq_true rfl⟩ rfl rfl (Nat.le_of_ble_eq_true rfl) ?_
  refine e_iload_3 dX3_move_36 rfl ?_
  exact e_iret dX3_move_37 rfl rfl (Nat.le_of_ble_eq_true rfl) (Nat.le_of_ble_eq_true rfl) rfl rfl
theorem s_move_no3 {l : Launch} (hf : l.stackTraces = false) {M : pmM} {od : Nat → Nat} (hmr : M.2.1 = mrC od) (hod : ∀ p, p < 8 → od p < 8) {rc : Nat} (hrc : M.1 0 3 = nI rc) (h8 : rc ≤ 8) {x : Int32} {p : Nat} (hp : p < rc) (hx : M.1 (31 + 3 * od p) 0 = x) (hn : ∀ q, q < p → M.1 (31 + 3 * od q) 0 ≠ x) {q : Nat} (hq : q < rc) (hz : ¬ chE M od p q = 0) : Sp l kX3_move 64 14 3 18 [.ref 0, .int x, .int (nI q)] M (.inr "java/lang/UnsupportedOperationException") M := by
  refine sp_of hf (by decide +kernel) (Nat.le_of_ble_eq_true rfl) (by intro v hv; simp at hv; rcases hv with rfl | rfl | rfl <;> rfl) rfl ?_
  refine e_aload_0 dX3_move_0 rfl ?_
  refine e_iload_1 dX3_move_1 rfl ?_
  refine e_callV dX3_move_2 rfl csX3_156 (s_requireRule_ok hf hmr hod hrc h8 hp hx hn) rfl rfl ps_0 (by decide) (by decide) ⟨Nat.le_of_ble_eq_true rfl, Nat.le_of_ble_eq_true rfl⟩ ⟨Nat.le_of_ble_eq_true rfl, Nat.le_of_ble_eq_true rfl⟩ rfl rfl (Nat.le_of_ble_eq_true rfl) ?_
  refine e_istore_3 dX3_move_5 rfl (Nat.le_of_ble_eq_true rfl) rfl ?_
  refine e_aload_0 dX3_move_6 rfl ?_
  refine e_iload_2 dX3_move_7 rfl ?_
  refine e_callV dX3_move_8 rfl csX3_167 (s_requirePosition_ok hf hrc h8 hq) rfl rfl ps_0 (by decide) (by decide) ⟨Nat.le_of_ble_eq_true rfl, Nat.le_of_ble_eq_true rfl⟩ ⟨Nat.le_of_ble_eq_true rfl, Nat.le_of_ble_eq_true rfl⟩ rfl rfl (Nat.le_of_ble_eq_true rfl) ?_
  refine e_aload_0 dX3_move_11 rfl ?_
  refine e_iload_3 dX3_move_12 rfl ?_
  refine e_iload_2 dX3_move_13 rfl ?_
  refine e_callV dX3_move_14 rfl csX3_224 (s_changedByShift hf hmr hod (by omega) (by omega)) rfl rfl ps_0 (by decide) (by decide) ⟨Nat.le_of_ble_eq_true rfl, Nat.le_of_ble_eq_true rfl⟩ ⟨Nat.le_of_ble_eq_true rfl, Nat.le_of_ble_eq_true rfl⟩ rfl rfl (Nat.le_of_ble_eq_true rfl) ?_
  refine e_if_eq_f dX3_move_17 rfl ⟨30, by decide⟩ hz ?_
  exact e_throw dX3_move_20 dX3_move_23 dX3_move_24 dX3_move_26 dX3_move_29 th_91_227_95 rfl ⟨Nat.le_of_ble_eq_true rfl, Nat.le_of_ble_eq_true rfl⟩ (Nat.le_of_ble_eq_true rfl) ⟨Nat.le_of_ble_eq_true rfl, Nat.le_of_ble_eq_true rfl⟩ ⟨Nat.le_of_ble_eq_true rfl, Nat.le_of_ble_eq_true rfl⟩ rfl
theorem s_move_no2 {l : Launch} (hf : l.stackTraces = false) {M : pmM} {od : Nat → Nat} (hmr : M.2.1 = mrC od) (hod : ∀ p, p < 8 → od p < 8) {rc : Nat} (hrc : M.1 0 3 = nI rc) (h8 : rc ≤ 8) {x : Int32} {p : Nat} (hp : p < rc) (hx : M.1 (31 + 3 * od p) 0 = x) (hn : ∀ q, q < p → M.1 (31 + 3 * od q) 0 ≠ x) {y : Int32} (hy : ¬ vp_in y rc) : Sp l kX3_move 64 14 3 18 [.ref 0, .int x, .int y] M (.inr "java/lang/IndexOutOfBoundsException") M := by
  refine sp_of hf (by decide +kernel) (Nat.le_of_ble_eq_true rfl) (by intro v hv; simp at hv; rcases hv with rfl | rfl | rfl <;> rfl) rfl ?_
  refine e_aload_0 dX3_move_0 rfl ?_
  refine e_iload_1 dX3_move_1 rfl ?_
  refine e_callV dX3_move_2 rfl csX3_156 (s_requireRule_ok hf hmr hod hrc h8 hp hx hn) rfl rfl ps_0 (by decide) (by decide) ⟨Nat.le_of_ble_eq_true rfl, Nat.le_of_ble_eq_true rfl⟩ ⟨Nat.le_of_ble_eq_true rfl, Nat.le_of_ble_eq_true rfl⟩ rfl rfl (Nat.le_of_ble_eq_true rfl) ?_
  refine e_istore_3 dX3_move_5 rfl (Nat.le_of_ble_eq_true rfl) rfl ?_
  refine e_aload_0 dX3_move_6 rfl ?_
  refine e_iload_2 dX3_move_7 rfl ?_
  exact e_callV_x dX3_move_8 csX3_167 (s_requirePosition_no hf hrc h8 hy) rfl rfl ps_0 (by decide) (by decide) ⟨Nat.le_of_ble_eq_true rfl, Nat.le_of_ble_eq_true rfl⟩ ⟨Nat.le_of_ble_eq_true rfl, Nat.le_of_ble_eq_true rfl⟩ (Nat.le_of_ble_eq_true rfl) rfl ⟨Nat.le_of_ble_eq_true rfl, Nat.le_of_ble_eq_true rfl⟩
theorem s_move_nr {l : Launch} (hf : l.stackTraces = false) {M : pmM} {od : Nat → Nat} (hmr : M.2.1 = mrC od) (hod : ∀ p, p < 8 → od p < 8) {rc : Nat} (hrc : M.1 0 3 = nI rc) (h8 : rc ≤ 8) {x : Int32} (hn : ∀ q, q < rc → M.1 (31 + 3 * od q) 0 ≠ x) {y : Int32} : Sp l kX3_move 64 14 3 18 [.ref 0, .int x, .int y] M (.inr "java/util/NoSuchElementException") M := by
  refine sp_of hf (by decide +kernel) (Nat.le_of_ble_eq_true rfl) (by intro v hv; simp at hv; rcases hv with rfl | rfl | rfl <;> rfl) rfl ?_
  refine e_aload_0 dX3_move_0 rfl ?_
  refine e_iload_1 dX3_move_1 rfl ?_
  exact e_callV_x dX3_move_2 csX3_156 (s_requireRule_no hf hmr hod hrc h8 hn) rfl rfl ps_0 (by decide) (by decide) ⟨Nat.le_of_ble_eq_true rfl, Nat.le_of_ble_eq_true rfl⟩ ⟨Nat.le_of_ble_eq_true rfl, Nat.le_of_ble_eq_true rfl⟩ (Nat.le_of_ble_eq_true rfl) rfl ⟨Nat.le_of_ble_eq_true rfl, Nat.le_of_ble_eq_true rfl⟩
theorem s_changedByRange_ok {l : Launch} (hf : l.stackTraces = false) {M : pmM} {od : Nat → Nat} (hmr : M.2.1 = mrC od) (hod : ∀ p, p < 8 → od p < 8) {rc : Nat} (hrc : M.1 0 3 = nI rc) (h8 : rc ≤ 8) (hfo : ∀ p f, p < rc → f < 3 → fOk (M.1 (32 + 3 * od p) f)) (hac : ∀ p, p < rc → M.1 (31 + 3 * od p) 1 = nI 97 ∨ M.1 (31 + 3 * od p) 1 = nI 100) {oc : Nat} (hoc : M.1 0 1 = nI oc) (hoc8 : oc ≤ 8) {o : Nat} (ho : o < oc) {a b : Nat} (hab : a ≤ b) (hb : b < 32) : Sp l kX3_changedByRange 64 13 4 24 [.ref 0, .int (nI o), .int (nI a), .int (nI b)] M (.inl (some (.int (crR M (tdM od rc (nI o) (rgO a b) M) od rc 9)))) (tdM od rc (nI o) (rgO a b) M) := by
  refine sp_of hf (by decide +kernel) (Nat.le_of_ble_eq_true rfl) (by intro v hv; simp at hv; rcases hv with rfl | rfl | rfl | rfl <;> rfl) rfl ?_
  refine e_aload_0 dX3_changedByRange_0 rfl ?_
  refine e_iload_1 dX3_changedByRange_1 rfl ?_
  refine e_callV dX3_changedByRange_2 rfl csX3_50 (s_requireObject_ok hf hoc hoc8 ho) rfl rfl ps_0 (by decide) (by decide) ⟨Nat.le_of_ble_eq_true rfl, Nat.le_of_ble_eq_true rfl⟩ ⟨Nat.le_of_ble_eq_true rfl, Nat.le_of_ble_eq_true rfl⟩ rfl rfl (Nat.le_of_ble_eq_true rfl) ?_
  refine e_iload_2 dX3_changedByRange_5 rfl ?_
  refine e_iload_3 dX3_changedByRange_6 rfl ?_
  refine e_callS dX3_changedByRange_7 rfl csX3_54 (s_requireRange_ok hf (by omega) hb hab) rfl rfl ⟨Nat.le_of_ble_eq_true rfl, Nat.le_of_ble_eq_true rfl⟩ ⟨Nat.le_of_ble_eq_true rfl, Nat.le_of_ble_eq_true rfl⟩ rfl rfl (Nat.le_of_ble_eq_true rfl) ?_
  refine e_aload_0 dX3_changedByRange_10 rfl ?_
  refine e_iload_1 dX3_changedByRange_11 rfl ?_
  refine e_iload_2 dX3_changedByRange_12 rfl ?_
  refine e_iload_3 dX3_changedByRange_13 rfl ?_
  refine e_callS dX3_changedByRange_14 rfl csX3_66 (s_rangeOf hf) rfl rfl ⟨Nat.le_of_ble_eq_true rfl, Nat.le_of_ble_eq_true rfl⟩ ⟨Nat.le_of_ble_eq_true rfl, Nat.le_of_ble_eq_true rfl⟩ rfl rfl (Nat.le_of_ble_eq_true rfl) ?_
  refine e_callV dX3_changedByRange_17 rfl csX3_216 (s_tallyDeciders hf hmr hod hrc h8 hfo (Or.inr ⟨o, by omega, rfl⟩)) rfl rfl ps_0 (by decide) (by decide) ⟨Nat.le_of_ble_eq_true rfl, Nat.le_of_ble_eq_true rfl⟩ ⟨Nat.le_of_ble_eq_true rfl, Nat.le_of_ble_eq_true rfl⟩ rfl rfl (Nat.le_of_ble_eq_true rfl) ?_
  have hS := tdM_SX od rc (nI o) (rgO a b) M
  generalize (tdM od rc (nI o) (rgO a b) M) = T at hS ⊢
  have ht : T.2.1 = mrC od := hS.mr hmr
  have htc : T.1 0 3 = nI rc := (hS.2 _ _ (by unfold scr; omega)).trans hrc
  have hac2 : ∀ p, p < rc → T.1 (31 + 3 * od p) 1 = nI 97 ∨ T.1 (31 + 3 * od p) 1 = nI 100 := fun p hp => by rw [hS.2 _ _ (by have := hod p (by omega); unfold scr; omega)]; exact hac p hp
  refine e_iconst (v := nI 0) dX3_changedByRange_20 rfl ic_0 ?_
  refine e_istore_4 dX3_changedByRange_21 rfl (Nat.le_of_ble_eq_true rfl) rfl ?_
  refine e_iconst (v := nI 0) dX3_changedByRange_23 rfl ic_0 ?_
  refine e_istore_5 dX3_changedByRange_24 rfl (Nat.le_of_ble_eq_true rfl) rfl ?_
  refine loop_up (P := fun i => Ev l kX3_changedByRange (gM 64 4 24 (.inl (some (.int (crR M T od rc 9)))) T) (rmd 13 4 24) 64 4 24 26 [some (.ref 0), some (.int (nI o)), some (.int (nI a)), some (.int (nI b)), some (.int (crR M T od rc i)), some (.int (nI i)), none] [] T) ?_ (fun i hi ih => ?_) 0 (Nat.zero_le 9)
  · refine e_iload_5 dX3_changedByRange_26 rfl ?_
    refine e_bipush (v := nI 9) dX3_changedByRange_28 rfl bc_9 ?_
    refine e_nc_ge_t (tgt := 85) dX3_changedByRange_30 (by decide) (by omega) (by omega) (Nat.le_refl _) ?_
    refine e_iload_4 dX3_changedByRange_85 rfl ?_
    exact e_iret dX3_changedByRange_87 rfl rfl (Nat.le_of_ble_eq_true rfl) (Nat.le_of_ble_eq_true rfl) rfl rfl
  · refine e_iload_5 dX3_changedByRange_26 rfl ?_
    refine e_bipush (v := nI 9) dX3_changedByRange_28 rfl bc_9 ?_
    refine e_nc_ge_f dX3_changedByRange_30 rfl ⟨85, by decide⟩ (by omega) (by omega) hi ?_
    refine e_iconst (v := nI 0) dX3_changedByRange_33 rfl ic_0 ?_
    refine e_istore_6 dX3_changedByRange_34 rfl (Nat.le_of_ble_eq_true rfl) rfl ?_
    refine loop_up (P := fun j => Ev l kX3_changedByRange (gM 64 4 24 (.inl (some (.int (crR M T od rc 9)))) T) (rmd 13 4 24) 64 4 24 36 [some (.ref 0), some (.int (nI o)), some (.int (nI a)), some (.int (nI b)), some (.int (crC M T od rc i j (crR M T od rc i))), some (.int (nI i)), some (.int (nI j))] [] T) ?_ (fun j hj ih2 => ?_) 0 (Nat.zero_le 9)
    · refine e_iload_6 dX3_changedByRange_36 rfl ?_
      refine e_bipush (v := nI 9) dX3_changedByRange_38 rfl bc_9 ?_
      refine e_nc_ge_t (tgt := 79) dX3_changedByRange_40 (by decide) (by omega) (by omega) (Nat.le_refl _) ?_
      refine e_iinc_5 (v := nI (i + 1)) dX3_changedByRange_79 rfl (Nat.le_of_ble_eq_true rfl) rfl (nI_1 i) ?_
      refine e_goto (tgt := 26) dX3_changedByRange_82 (by decide) ?_
      refine e_weak (weak_c (weak_c (weak_c (weak_c (weak_c (weak_c (weak_n weak_nil))))))) ?_
      exact ih
    · by_cases h1 : acF M od rc i = acF M od rc j
      · refine e_iload_6 dX3_changedByRange_36 rfl ?_
        refine e_bipush (v := nI 9) dX3_changedByRange_38 rfl bc_9 ?_
        refine e_nc_ge_f dX3_changedByRange_40 rfl ⟨79, by decide⟩ (by omega) (by omega) hj ?_
        refine e_aload_0 dX3_changedByRange_43 rfl ?_
        refine e_iload_5 dX3_changedByRange_44 rfl ?_
        refine e_callV dX3_changedByRange_46 rfl csX3_233 (s_actionOf hf ht hod htc h8 hac2 (show i ≤ 8 by omega)) rfl rfl ps_0 (by decide) (by decide) ⟨Nat.le_of_ble_eq_true rfl, Nat.le_of_ble_eq_true rfl⟩ ⟨Nat.le_of_ble_eq_true rfl, Nat.le_of_ble_eq_true rfl⟩ rfl rfl (Nat.le_of_ble_eq_true rfl) ?_
        refine e_topi (acF M od rc i) (acF_congr hS hod h8) ?_
        refine e_aload_0 dX3_changedByRange_49 rfl ?_
        refine e_iload_6 dX3_changedByRange_50 rfl ?_
        refine e_callV dX3_changedByRange_52 rfl csX3_233 (s_actionOf hf ht hod htc h8 hac2 (show j ≤ 8 by omega)) rfl rfl ps_0 (by decide) (by decide) ⟨Nat.le_of_ble_eq_true rfl, Nat.le_of_ble_eq_true rfl⟩ ⟨Nat.le_of_ble_eq_true rfl, Nat.le_of_ble_eq_true rfl⟩ rfl rfl (Nat.le_of_ble_eq_true rfl) ?_
        refine e_topi (acF M od rc j) (acF_congr hS hod h8) ?_
        refine e_ic_eq_t (tgt := 73) dX3_changedByRange_55 (by decide) h1 ?_
        refine e_iinc_6 (v := nI (j + 1)) dX3_changedByRange_73 rfl (Nat.le_of_ble_eq_true rfl) rfl (nI_1 j) ?_
        refine e_goto (tgt := 36) dX3_changedByRange_76 (by decide) ?_
        refine e_loc ?_ ih2
        rw [crC, if_pos h1]
      · refine e_iload_6 dX3_changedByRange_36 rfl ?_
        refine e_bipush (v := nI 9) dX3_changedByRange_38 rfl bc_9 ?_
        refine e_nc_ge_f dX3_changedByRange_40 rfl ⟨79, by decide⟩ (by omega) (by omega) hj ?_
        refine e_aload_0 dX3_changedByRange_43 rfl ?_
        refine e_iload_5 dX3_changedByRange_44 rfl ?_
        refine e_callV dX3_changedByRange_46 rfl csX3_233 (s_actionOf hf ht hod htc h8 hac2 (show i ≤ 8 by omega)) rfl rfl ps_0 (by decide) (by decide) ⟨Nat.le_of_ble_eq_true rfl, Nat.le_of_ble_eq_true rfl⟩ ⟨Nat.le_of_ble_eq_true rfl, Nat.le_of_ble_eq_true rfl⟩ rfl rfl (Nat.le_of_ble_eq_true rfl) ?_
        refine e_topi (acF M od rc i) (acF_congr hS hod h8) ?_
        refine e_aload_0 dX3_changedByRange_49 rfl ?_
        refine e_iload_6 dX3_changedByRange_50 rfl ?_
        refine e_callV dX3_changedByRange_52 rfl csX3_233 (s_actionOf hf ht hod htc h8 hac2 (show j ≤ 8 by omega)) rfl rfl ps_0 (by decide) (by decide) ⟨Nat.le_of_ble_eq_true rfl, Nat.le_of_ble_eq_true rfl⟩ ⟨Nat.le_of_ble_eq_true rfl, Nat.le_of_ble_eq_true rfl⟩ rfl rfl (Nat.le_of_ble_eq_true rfl) ?_
        refine e_topi (acF M od rc j) (acF_congr hS hod h8) ?_
        refine e_ic_eq_f dX3_changedByRange_55 rfl ⟨73, by decide⟩ h1 ?_
        refine e_iload_4 dX3_changedByRange_58 rfl ?_
        refine e_aload_0 dX3_changedByRange_60 rfl ?_
        refine e_getR dX3_changedByRange_61 rfl lkX3_33 rfl ps_0 (by decide) (by decide) (mr_of ht rfl) ?_
        refine e_iload_5 dX3_changedByRange_64 rfl ?_
        refine e_aald dX3_changedByRange_66 rfl ps_5 (by decide) (by decide) (by decide) rfl (by omega) (mr_of ht (mr_tally _ _)) ?_
        refine e_iload_6 dX3_changedByRange_67 rfl ?_
        refine e_iald dX3_changedByRange_69 rfl (ps_T (by omega)) (lt_TR (by omega)) rfl (by omega) ?_
        refine e_iadd dX3_changedByRange_70 rfl ?_
        refine e_istore_4 dX3_changedByRange_71 rfl (Nat.le_of_ble_eq_true rfl) rfl ?_
        refine e_iinc_6 (v := nI (j + 1)) dX3_changedByRange_73 rfl (Nat.le_of_ble_eq_true rfl) rfl (nI_1 j) ?_
        refine e_goto (tgt := 36) dX3_changedByRange_76 (by decide) ?_
        refine e_loc ?_ ih2
        rw [crC, if_neg h1]
theorem s_changedByRange_no1 {l : Launch} (hf : l.stackTraces = false) {M : pmM} {oc : Nat} (hoc : M.1 0 1 = nI oc) (hoc8 : oc ≤ 8) {x : Int32} (hx : ¬ vp_in x oc) {y z : Int32} : Sp l kX3_changedByRange 64 13 4 24 [.ref 0, .int x, .int y, .int z] M (.inr "java/lang/IndexOutOfBoundsException") M := by
  refine sp_of hf (by decide +kernel) (Nat.le_of_ble_eq_true rfl) (by intro v hv; simp at hv; rcases hv with rfl | rfl | rfl | rfl <;> rfl) rfl ?_
  refine e_aload_0 dX3_changedByRange_0 rfl ?_
  refine e_iload_1 dX3_changedByRange_1 rfl ?_
  exact e_callV_x dX3_changedByRange_2 csX3_50 (s_requireObject_no hf hoc hoc8 hx) rfl rfl ps_0 (by decide) (by decide) ⟨Nat.le_of_ble_eq_true rfl, Nat.le_of_ble_eq_true rfl⟩ ⟨Nat.le_of_ble_eq_true rfl, Nat.le_of_ble_eq_true rfl⟩ (Nat.le_of_ble_eq_true rfl) rfl ⟨Nat.le_of_ble_eq_true rfl, Nat.le_of_ble_eq_true rfl⟩
theorem s_changedByRange_no2 {l : Launch} (hf : l.stackTraces = false) {M : pmM} {oc : Nat} (hoc : M.1 0 1 = nI oc) (hoc8 : oc ≤ 8) {o : Nat} (ho : o < oc) {x y : Int32} (hx : ∀ a b : Nat, a ≤ b → b < 32 → ¬ (x = nI a ∧ y = nI b)) : Sp l kX3_changedByRange 64 13 4 24 [.ref 0, .int (nI o), .int x, .int y] M (.inr "java/lang/IllegalArgumentException") M := by
  refine sp_of hf (by decide +kernel) (Nat.le_of_ble_eq_true rfl) (by intro v hv; simp at hv; rcases hv with rfl | rfl | rfl | rfl <;> rfl) rfl ?_
  refine e_aload_0 dX3_changedByRange_0 rfl ?_
  refine e_iload_1 dX3_changedByRange_1 rfl ?_
  refine e_callV dX3_changedByRange_2 rfl csX3_50 (s_requireObject_ok hf hoc hoc8 ho) rfl rfl ps_0 (by decide) (by decide) ⟨Nat.le_of_ble_eq_true rfl, Nat.le_of_ble_eq_true rfl⟩ ⟨Nat.le_of_ble_eq_true rfl, Nat.le_of_ble_eq_true rfl⟩ rfl rfl (Nat.le_of_ble_eq_true rfl) ?_
  refine e_iload_2 dX3_changedByRange_5 rfl ?_
  refine e_iload_3 dX3_changedByRange_6 rfl ?_
  exact e_callS_x dX3_changedByRange_7 csX3_54 (s_requireRange_no hf hx) rfl rfl ⟨Nat.le_of_ble_eq_true rfl, Nat.le_of_ble_eq_true rfl⟩ ⟨Nat.le_of_ble_eq_true rfl, Nat.le_of_ble_eq_true rfl⟩ (Nat.le_of_ble_eq_true rfl) rfl ⟨Nat.le_of_ble_eq_true rfl, Nat.le_of_ble_eq_true rfl⟩
theorem s_shadowedShare_ok {l : Launch} (hf : l.stackTraces = false) {M : pmM} {od : Nat → Nat} (hmr : M.2.1 = mrC od) (hod : ∀ p, p < 8 → od p < 8) {rc : Nat} (hrc : M.1 0 3 = nI rc) (h8 : rc ≤ 8) (hz : (pcn (ifN (inF M od) rc)) ≠ 0) : Sp l kX3_shadowedShare 64 14 1 6 [.ref 0] M (.inl (some (.float (FP.fdiv (FP.i2f (nI (cntN (shF M od) rc))) (FP.i2f (nI (pcn (ifN (inF M od) rc)))))))) M := by
  refine sp_of hf (by decide +kernel) (Nat.le_of_ble_eq_true rfl) (by intro v hv; simp at hv; subst hv; rfl) rfl ?_
  have hpl := pcn_le (ifN (inF M od) rc)
  refine e_aload_0 dX3_shadowedShare_0 rfl ?_
  refine e_aload_0 dX3_shadowedShare_1 rfl ?_
  refine e_getI dX3_shadowedShare_2 rfl lkX3_116 rfl ps_0 (by decide) (by decide) ?_
  refine e_topi (nI rc) hrc ?_
  refine e_callV dX3_shadowedShare_5 rfl csX3_237 (s_inForceAhead hf hmr hod h8) rfl rfl ps_0 (by decide) (by decide) ⟨Nat.le_of_ble_eq_true rfl, Nat.le_of_ble_eq_true rfl⟩ ⟨Nat.le_of_ble_eq_true rfl, Nat.le_of_ble_eq_true rfl⟩ rfl rfl (Nat.le_of_ble_eq_true rfl) ?_
  refine e_callS dX3_shadowedShare_8 rfl csX3_96 (s_bitCount hf) rfl rfl ⟨Nat.le_of_ble_eq_true rfl, Nat.le_of_ble_eq_true rfl⟩ ⟨Nat.le_of_ble_eq_true rfl, Nat.le_of_ble_eq_true rfl⟩ rfl rfl (Nat.le_of_ble_eq_true rfl) ?_
  refine e_topi (nI (pcn (ifN (inF M od) rc))) (bcE_256 (ifN_256 _ h8)) ?_
  refine e_istore_1 dX3_shadowedShare_11 rfl (Nat.le_of_ble_eq_true rfl) rfl ?_
  refine e_iload_1 dX3_shadowedShare_12 rfl ?_
  refine e_if_ne_t (tgt := 26) dX3_shadowedShare_13 (by decide) (nI_ne0 (Nat.pos_of_ne_zero hz) (by omega)) ?_
  refine e_iconst (v := nI 0) dX3_shadowedShare_26 rfl ic_0 ?_
  refine e_istore_2 dX3_shadowedShare_27 rfl (Nat.le_of_ble_eq_true rfl) rfl ?_
  refine e_iconst (v := nI 0) dX3_shadowedShare_28 rfl ic_0 ?_
  refine e_istore_3 dX3_shadowedShare_29 rfl (Nat.le_of_ble_eq_true rfl) rfl ?_
  refine loop_up (P := fun i => Ev l kX3_shadowedShare (gM 64 1 6 (.inl (some (.float (FP.fdiv (FP.i2f (nI (cntN (shF M od) rc))) (FP.i2f (nI (pcn (ifN (inF M od) rc)))))))) M) (rmd 14 1 6) 64 0 0 30 [some (.ref 0), some (.int (nI (pcn (ifN (inF M od) rc)))), some (.int (nI (cntN (shF M od) i))), some (.int (nI i))] [] M) ?_ (fun i hi ih => ?_) 0 (Nat.zero_le rc)
  · refine e_iload_3 dX3_shadowedShare_30 rfl ?_
    refine e_aload_0 dX3_shadowedShare_31 rfl ?_
    refine e_getI dX3_shadowedShare_32 rfl lkX3_116 rfl ps_0 (by decide) (by decide) ?_
    refine e_topi (nI rc) hrc ?_
    refine e_nc_ge_t (tgt := 55) dX3_shadowedShare_35 (by decide) (by omega) (by omega) (Nat.le_refl _) ?_
    refine e_iload_2 dX3_shadowedShare_55 rfl ?_
    refine e_i2f dX3_shadowedShare_56 rfl ?_
    refine e_iload_1 dX3_shadowedShare_57 rfl ?_
    refine e_i2f dX3_shadowedShare_58 rfl ?_
    refine e_fdiv dX3_shadowedShare_59 rfl (fl_div32 _ (nI_ne0 (Nat.pos_of_ne_zero hz) (by omega))) ?_
    exact e_fret dX3_shadowedShare_60 rfl (Nat.le_of_ble_eq_true rfl) (Nat.le_of_ble_eq_true rfl) rfl rfl
  · cases h1 : shF M od i with
    | true =>
      refine e_iload_3 dX3_shadowedShare_30 rfl ?_
      refine e_aload_0 dX3_shadowedShare_31 rfl ?_
      refine e_getI dX3_shadowedShare_32 rfl lkX3_116 rfl ps_0 (by decide) (by decide) ?_
      refine e_topi (nI rc) hrc ?_
      refine e_nc_ge_f dX3_shadowedShare_35 rfl ⟨55, by decide⟩ (by omega) (by omega) hi ?_
      refine e_aload_0 dX3_shadowedShare_38 rfl ?_
      refine e_iload_3 dX3_shadowedShare_39 rfl ?_
      refine e_callV dX3_shadowedShare_40 rfl csX3_219 (s_isShadowedAt hf hmr hod (by omega)) rfl rfl ps_0 (by decide) (by decide) ⟨Nat.le_of_ble_eq_true rfl, Nat.le_of_ble_eq_true rfl⟩ ⟨Nat.le_of_ble_eq_true rfl, Nat.le_of_ble_eq_true rfl⟩ rfl rfl (Nat.le_of_ble_eq_true rfl) ?_
      refine e_if_eq_f dX3_shadowedShare_43 rfl ⟨49, by decide⟩ (bI1 h1) ?_
      refine e_iinc_2 (v := nI (cntN (shF M od) i + 1)) dX3_shadowedShare_46 rfl (Nat.le_of_ble_eq_true rfl) rfl (nI_1 (cntN (shF M od) i)) ?_
      refine e_iinc_3 (v := nI (i + 1)) dX3_shadowedShare_49 rfl (Nat.le_of_ble_eq_true rfl) rfl (nI_1 i) ?_
      refine e_goto (tgt := 30) dX3_shadowedShare_52 (by decide) ?_
      refine e_loc ?_ ih
      rw [cntN, if_pos h1]
    | false =>
      refine e_iload_3 dX3_shadowedShare_30 rfl ?_
      refine e_aload_0 dX3_shadowedShare_31 rfl ?_
      refine e_getI dX3_shadowedShare_32 rfl lkX3_116 rfl ps_0 (by decide) (by decide) ?_
      refine e_topi (nI rc) hrc ?_
      refine e_nc_ge_f dX3_shadowedShare_35 rfl ⟨55, by decide⟩ (by omega) (by omega) hi ?_
      refine e_aload_0 dX3_shadowedShare_38 rfl ?_
      refine e_iload_3 dX3_shadowedShare_39 rfl ?_
      refine e_callV dX3_shadowedShare_40 rfl csX3_219 (s_isShadowedAt hf hmr hod (by omega)) rfl rfl ps_0 (by decide) (by decide) ⟨Nat.le_of_ble_eq_true rfl, Nat.le_of_ble_eq_true rfl⟩ ⟨Nat.le_of_ble_eq_true rfl, Nat.le_of_ble_eq_true rfl⟩ rfl rfl (Nat.le_of_ble_eq_true rfl) ?_
      refine e_if_eq_t (tgt := 49) dX3_shadowedShare_43 (by decide) (bI0 h1) ?_
      refine e_iinc_3 (v := nI (i + 1)) dX3_shadowedShare_49 rfl (Nat.le_of_ble_eq_true rfl) rfl (nI_1 i) ?_
      refine e_goto (tgt := 30) dX3_shadowedShare_52 (by decide) ?_
      refine e_loc ?_ ih
      rw [cntN, if_neg (by rw [h1]; decide)]
theorem s_shadowedShare_no {l : Launch} (hf : l.stackTraces = false) {M : pmM} {od : Nat → Nat} (hmr : M.2.1 = mrC od) (hod : ∀ p, p < 8 → od p < 8) {rc : Nat} (hrc : M.1 0 3 = nI rc) (h8 : rc ≤ 8) (hz : (pcn (ifN (inF M od) rc)) = 0) : Sp l kX3_shadowedShare 64 14 1 6 [.ref 0] M (.inr "java/lang/ArithmeticException") M := by
  refine sp_of hf (by decide +kernel) (Nat.le_of_ble_eq_true rfl) (by intro v hv; simp at hv; subst hv; rfl) rfl ?_
  refine e_aload_0 dX3_shadowedShare_0 rfl ?_
  refine e_aload_0 dX3_shadowedShare_1 rfl ?_
  refine e_getI dX3_shadowedShare_2 rfl lkX3_116 rfl ps_0 (by decide) (by decide) ?_
  refine e_topi (nI rc) hrc ?_
  refine e_callV dX3_shadowedShare_5 rfl csX3_237 (s_inForceAhead hf hmr hod h8) rfl rfl ps_0 (by decide) (by decide) ⟨Nat.le_of_ble_eq_true rfl, Nat.le_of_ble_eq_true rfl⟩ ⟨Nat.le_of_ble_eq_true rfl, Nat.le_of_ble_eq_true rfl⟩ rfl rfl (Nat.le_of_ble_eq_true rfl) ?_
  refine e_callS dX3_shadowedShare_8 rfl csX3_96 (s_bitCount hf) rfl rfl ⟨Nat.le_of_ble_eq_true rfl, Nat.le_of_ble_eq_true rfl⟩ ⟨Nat.le_of_ble_eq_true rfl, Nat.le_of_ble_eq_true rfl⟩ rfl rfl (Nat.le_of_ble_eq_true rfl) ?_
  refine e_topi (nI (pcn (ifN (inF M od) rc))) (bcE_256 (ifN_256 _ h8)) ?_
  refine e_istore_1 dX3_shadowedShare_11 rfl (Nat.le_of_ble_eq_true rfl) rfl ?_
  refine e_iload_1 dX3_shadowedShare_12 rfl ?_
  refine e_if_ne_f dX3_shadowedShare_13 rfl ⟨26, by decide⟩ (show nI (pcn (ifN (inF M od) rc)) = 0 by rw [hz]; rfl) ?_
  exact e_throw dX3_shadowedShare_16 dX3_shadowedShare_19 dX3_shadowedShare_20 dX3_shadowedShare_22 dX3_shadowedShare_25 th_240_242_244 rfl ⟨Nat.le_of_ble_eq_true rfl, Nat.le_of_ble_eq_true rfl⟩ (Nat.le_of_ble_eq_true rfl) ⟨Nat.le_of_ble_eq_true rfl, Nat.le_of_ble_eq_true rfl⟩ ⟨Nat.le_of_ble_eq_true rfl, Nat.le_of_ble_eq_true rfl⟩ rfl
theorem s_meanHits_ok {l : Launch} (hf : l.stackTraces = false) {M : pmM} {od : Nat → Nat} (hmr : M.2.1 = mrC od) (hod : ∀ p, p < 8 → od p < 8) {rc : Nat} (hrc : M.1 0 3 = nI rc) (h8 : rc ≤ 8) (hz : rc ≠ 0) : Sp l kX3_meanHits 64 1 1 6 [.ref 0] M (.inl (some (.double (FP.ddiv (FP.i2d (suS M od rc)) (FP.i2d (nI rc)))))) M := by
  refine sp_of hf (by decide +kernel) (Nat.le_of_ble_eq_true rfl) (by intro v hv; simp at hv; subst hv; rfl) rfl ?_
  refine e_aload_0 dX3_meanHits_0 rfl ?_
  refine e_getI dX3_meanHits_1 rfl lkX3_116 rfl ps_0 (by decide) (by decide) ?_
  refine e_topi (nI rc) hrc ?_
  refine e_if_ne_t (tgt := 17) dX3_meanHits_4 (by decide) (nI_ne0 (Nat.pos_of_ne_zero hz) (by omega)) ?_
  refine e_iconst (v := nI 0) dX3_meanHits_17 rfl ic_0 ?_
  refine e_istore_1 dX3_meanHits_18 rfl (Nat.le_of_ble_eq_true rfl) rfl ?_
  refine e_iconst (v := nI 0) dX3_meanHits_19 rfl ic_0 ?_
  refine e_istore_2 dX3_meanHits_20 rfl (Nat.le_of_ble_eq_true rfl) rfl ?_
  refine loop_up (P := fun i => Ev l kX3_meanHits (gM 64 1 6 (.inl (some (.double (FP.ddiv (FP.i2d (suS M od rc)) (FP.i2d (nI rc)))))) M) (rmd 1 1 6) 64 0 0 21 [some (.ref 0), some (.int (suS M od i)), some (.int (nI i))] [] M) ?_ (fun i hi ih => ?_) 0 (Nat.zero_le rc)
  · refine e_iload_2 dX3_meanHits_21 rfl ?_
    refine e_aload_0 dX3_meanHits_22 rfl ?_
    refine e_getI dX3_meanHits_23 rfl lkX3_116 rfl ps_0 (by decide) (by decide) ?_
    refine e_topi (nI rc) hrc ?_
    refine e_nc_ge_t (tgt := 47) dX3_meanHits_26 (by decide) (by omega) (by omega) (Nat.le_refl _) ?_
    refine e_iload_1 dX3_meanHits_47 rfl ?_
    refine e_i2d dX3_meanHits_48 rfl ?_
    refine e_aload_0 dX3_meanHits_49 rfl ?_
    refine e_getI dX3_meanHits_50 rfl lkX3_116 rfl ps_0 (by decide) (by decide) ?_
    refine e_topi (nI rc) hrc ?_
    refine e_i2d dX3_meanHits_53 rfl ?_
    refine e_ddiv dX3_meanHits_54 rfl (fl_div64 _ (nI_ne0 (Nat.pos_of_ne_zero hz) (by omega))) ?_
    exact e_dret dX3_meanHits_55 rfl (Nat.le_of_ble_eq_true rfl) (Nat.le_of_ble_eq_true rfl) rfl rfl
  · refine e_iload_2 dX3_meanHits_21 rfl ?_
    refine e_aload_0 dX3_meanHits_22 rfl ?_
    refine e_getI dX3_meanHits_23 rfl lkX3_116 rfl ps_0 (by decide) (by decide) ?_
    refine e_topi (nI rc) hrc ?_
    refine e_nc_ge_f dX3_meanHits_26 rfl ⟨47, by decide⟩ (by omega) (by omega) hi ?_
    refine e_iload_1 dX3_meanHits_29 rfl ?_
    refine e_aload_0 dX3_meanHits_30 rfl ?_
    refine e_getR dX3_meanHits_31 rfl lkX3_17 rfl ps_0 (by decide) (by decide) (mr_of hmr rfl) ?_
    refine e_iload_2 dX3_meanHits_34 rfl ?_
    refine e_aald dX3_meanHits_35 rfl ps_2 (by decide) (by decide) (by decide) rfl (by omega) (mr_of hmr (mr_order _ _)) ?_
    refine e_getI dX3_meanHits_36 rfl lkX3_195 rfl (ps_R (hod _ (by omega))) (by decide) (lt_RU (hod _ (by omega))) ?_
    refine e_iadd dX3_meanHits_39 rfl ?_
    refine e_istore_1 dX3_meanHits_40 rfl (Nat.le_of_ble_eq_true rfl) rfl ?_
    refine e_iinc_2 (v := nI (i + 1)) dX3_meanHits_41 rfl (Nat.le_of_ble_eq_true rfl) rfl (nI_1 i) ?_
    refine e_goto (tgt := 21) dX3_meanHits_44 (by decide) ?_
    exact ih
theorem s_meanHits_no {l : Launch} (hf : l.stackTraces = false) {M : pmM} (hrc : M.1 0 3 = nI 0) : Sp l kX3_meanHits 64 1 1 6 [.ref 0] M (.inr "java/lang/ArithmeticException") M := by
  refine sp_of hf (by decide +kernel) (Nat.le_of_ble_eq_true rfl) (by intro v hv; simp at hv; subst hv; rfl) rfl ?_
  refine e_aload_0 dX3_meanHits_0 rfl ?_
  refine e_getI dX3_meanHits_1 rfl lkX3_116 rfl ps_0 (by decide) (by decide) ?_
  refine e_topi (nI 0) hrc ?_
  refine e_if_ne_f dX3_meanHits_4 rfl ⟨17, by decide⟩ rfl ?_
  exact e_throw dX3_meanHits_7 dX3_meanHits_10 dX3_meanHits_11 dX3_meanHits_13 dX3_meanHits_16 th_240_245_244 rfl ⟨Nat.le_of_ble_eq_true rfl, Nat.le_of_ble_eq_true rfl⟩ (Nat.le_of_ble_eq_true rfl) ⟨Nat.le_of_ble_eq_true rfl, Nat.le_of_ble_eq_true rfl⟩ ⟨Nat.le_of_ble_eq_true rfl, Nat.le_of_ble_eq_true rfl⟩ rfl
