/-! ===== the model: packets, decisions, the order ===== -/
def mhM (M : pmM) (s : Nat) : pmM := (pm2 (pm2 (pm2 (pm2 M.1 77 s (M.1 77 s + nI 1)) 78 s (M.1 64 1)) 79 s (M.1 79 s + (if M.1 80 s = M.1 64 1 then nI 0 else nI 1))) 80 s (M.1 64 1), M.2)
theorem mhM_MS {M N : pmM} (h : MS M N) (s : Nat) : MS (mhM M s) (mhM N s) := by
  unfold mhM
  rw [h.at (a := 77) (Or.inl (by decide)), h.at (a := 79) (Or.inl (by decide)), h.at (a := 80) (Or.inl (by decide)), h.at (a := 64) (j := 1) (Or.inr ⟨rfl, by decide⟩)]
  exact (((h.put _ _ _).put _ _ _).put _ _ _).put _ _ _
def szC (S : Nat → Int32) (x : Int32) : Nat := cntN (hasb (stC S x)) 32
def dcN (bk : Nat → Nat) (p : Nat) : Nat := cntN (fun x => decide (fo (at1 bk 0 x) = p)) 32768
def ulN (f g : Nat → Nat) : Nat := cntN (ulB (bk2 f g)) 32768
theorem m_packet_ok {l : Launch} (hf : l.stackTraces = false) {M N : pmM} (hN : MS M N) {od : Nat → Nat} (hmr : M.2.1 = mrC od) {oc rc : Nat} {rg mc : Nat → Nat} {lo hi mb : Nat → Nat → Nat} {mo : Nat → Nat} (hO : MO M oc rg mc lo hi mb) (hmc : M.1 64 8 = nI rc) (h8 : rc ≤ 8) (hmo : ∀ p, p < rc → M.1 70 p = nI (mo p) ∧ mo p < 8) (hfo : OBF M mo rc oc) {bk : Nat → Nat} (hbk : bk = (bkC M (ScF oc rg mc lo hi mb (-1) (nI 0)) mo rc)) {a b c : Nat} (ha : a < 32) (hb : b < 32) (hc : c < 32) {p : Nat} (hp : p < rc) (hx : (bk a &&& bk (32 + b) &&& bk (64 + c)).testBit p = true) (hn : ∀ q, q < p → (bk a &&& bk (32 + b) &&& bk (64 + c)).testBit q = false) : ∃ N', MS (mhM M (mo p)) N' ∧ N'.1 64 0 = nI 0 ∧ Sp l kX4_packet 86 3 0 0 [.ref 64, .int (nI a), .int (nI b), .int (nI c)] N (.inl (some (.int (if M.1 73 (mo p) = 0 then nI 100 else nI 97)))) N' := by
  have hM0 := hN.cd 0
  have hrc : ∀ {P : pmM}, MS M P → P.1 64 8 = nI rc := fun h => (h.at (Or.inr ⟨rfl, by decide⟩)).trans hmc
  have hor : ∀ {P : pmM}, MS M P → ∀ p, p < rc → P.1 70 p = nI (mo p) := fun h p hp => (h.at (Or.inl (by decide))).trans (hmo p hp).1
  have hor2 : ∀ {P : pmM}, MS M P → ∀ p, p < rc → P.1 70 p = nI (mo p) ∧ mo p < 8 := fun h p hp => ⟨hor h p hp, (hmo p hp).2⟩
  have h72 : ∀ {P : pmM}, MS M P → ∀ s, P.1 72 s = M.1 72 s := fun h s => h.at (Or.inl (by decide))
  obtain ⟨N1, a1, a2, a3, a4, a5, a6⟩ := m_laysNow2 hf hM0 hmr hO hmc h8 hmo hfo
  rw [← hbk] at a3
  have hs := (hmo p hp).2
  refine ⟨mhM N1 (mo p), mhM_MS a1 _, a2, ?_⟩
  refine sp_of hf (by decide +kernel) (Nat.le_of_ble_eq_true rfl) (by intro v hv; simp at hv; rcases hv with rfl | rfl | rfl | rfl <;> rfl) rfl ?_
  refine e_aload_0 dX4_packet_0 rfl ?_
  refine e_iload_1 dX4_packet_1 rfl ?_
  refine e_iload_2 dX4_packet_2 rfl ?_
  refine e_iload_3 dX4_packet_3 rfl ?_
  refine e_callS dX4_packet_4 rfl csX4_140 (m_isPacket_y hf ha hb hc) rfl rfl ⟨Nat.le_of_ble_eq_true rfl, Nat.le_of_ble_eq_true rfl⟩ ⟨Nat.le_of_ble_eq_true rfl, Nat.le_of_ble_eq_true rfl⟩ rfl rfl (Nat.le_of_ble_eq_true rfl) ?_
  refine e_if_eq_f dX4_packet_7 rfl ⟨14, by decide⟩ (by decide) ?_
  refine e_iconst (v := nI 0) dX4_packet_10 rfl ic_0 ?_
  refine e_goto (tgt := 15) dX4_packet_11 (by decide) ?_
  refine e_putI dX4_packet_15 rfl lkX4_68 rfl rfl rfl ps_64 (by decide) (by decide) ?_
  refine e_aload_0 dX4_packet_18 rfl ?_
  refine e_getI dX4_packet_19 rfl lkX4_68 rfl ps_64 (by decide) (by decide) ?_
  refine e_topi (nI 0) rfl ?_
  refine e_if_le_t (tgt := 27) dX4_packet_22 (by decide) (by decide) ?_
  refine e_aload_0 dX4_packet_27 rfl ?_
  refine e_callV dX4_packet_28 rfl csX4_130 a6 rfl rfl ps_64 (by decide) (by decide) ⟨Nat.le_of_ble_eq_true rfl, Nat.le_of_ble_eq_true rfl⟩ ⟨Nat.le_of_ble_eq_true rfl, Nat.le_of_ble_eq_true rfl⟩ rfl rfl (Nat.le_of_ble_eq_true rfl) ?_
  refine e_pop dX4_packet_31 rfl rfl ?_
  refine e_aload_0 dX4_packet_32 rfl ?_
  refine e_iload_1 dX4_packet_33 rfl ?_
  refine e_iload_2 dX4_packet_34 rfl ?_
  refine e_iload_3 dX4_packet_35 rfl ?_
  refine e_callV dX4_packet_36 rfl csX4_143 (m_deciding_ok hf (a1.mr hmr) (hrc a1) h8 a3 ha hb hc hp hx hn) rfl rfl ps_64 (by decide) (by decide) ⟨Nat.le_of_ble_eq_true rfl, Nat.le_of_ble_eq_true rfl⟩ ⟨Nat.le_of_ble_eq_true rfl, Nat.le_of_ble_eq_true rfl⟩ rfl rfl (Nat.le_of_ble_eq_true rfl) ?_
  refine e_istore_4 dX4_packet_39 rfl (Nat.le_of_ble_eq_true rfl) rfl ?_
  refine e_iload_4 dX4_packet_41 rfl ?_
  refine e_iconst (v := -1) dX4_packet_43 rfl ic_m1 ?_
  refine e_ic_ne_t (tgt := 50) dX4_packet_44 (by decide) (nI_m1 (by omega)) ?_
  refine e_aload_0 dX4_packet_50 rfl ?_
  refine e_getR dX4_packet_51 rfl lkX4_25 rfl ps_64 (by decide) (by decide) (mr_of (a1.mr hmr) rfl) ?_
  refine e_iload_4 dX4_packet_54 rfl ?_
  refine e_iald dX4_packet_56 rfl ps_70 (by decide) rfl (by omega) ?_
  refine e_topi (nI (mo p)) (hor a1 p hp) ?_
  refine e_istore_5 dX4_packet_57 rfl (Nat.le_of_ble_eq_true rfl) rfl ?_
  refine e_aload_0 dX4_packet_59 rfl ?_
  refine e_getR dX4_packet_60 rfl lkX4_47 rfl ps_64 (by decide) (by decide) (mr_of (a1.mr hmr) rfl) ?_
  refine e_iload_5 dX4_packet_63 rfl ?_
  refine e_dup2 dX4_packet_65 rfl rfl rfl ?_
  refine e_iald dX4_packet_66 rfl ps_77 (by decide) rfl (by omega) ?_
  refine e_iconst (v := nI 1) dX4_packet_67 rfl ic_1 ?_
  refine e_iadd dX4_packet_68 rfl ?_
  refine e_iast dX4_packet_69 rfl ps_77 (by decide) rfl (by omega) ?_
  refine e_aload_0 dX4_packet_70 rfl ?_
  refine e_getR dX4_packet_71 rfl lkX4_50 rfl ps_64 (by decide) (by decide) (mr_of (a1.mr hmr) rfl) ?_
  refine e_iload_5 dX4_packet_74 rfl ?_
  refine e_aload_0 dX4_packet_76 rfl ?_
  refine e_getI dX4_packet_77 rfl lkX4_110 rfl ps_64 (by decide) (by decide) ?_
  refine e_iast dX4_packet_80 rfl ps_78 (by decide) rfl (by omega) ?_
  refine e_aload_0 dX4_packet_81 rfl ?_
  refine e_getR dX4_packet_82 rfl lkX4_53 rfl ps_64 (by decide) (by decide) (mr_of (a1.mr hmr) rfl) ?_
  refine e_iload_5 dX4_packet_85 rfl ?_
  refine e_dup2 dX4_packet_87 rfl rfl rfl ?_
  refine e_iald dX4_packet_88 rfl ps_79 (by decide) rfl (by omega) ?_
  refine e_aload_0 dX4_packet_89 rfl ?_
  refine e_getR dX4_packet_90 rfl lkX4_56 rfl ps_64 (by decide) (by decide) (mr_of (a1.mr hmr) rfl) ?_
  refine e_iload_5 dX4_packet_93 rfl ?_
  refine e_iald dX4_packet_95 rfl ps_80 (by decide) rfl (by omega) ?_
  refine e_aload_0 dX4_packet_96 rfl ?_
  refine e_getI dX4_packet_97 rfl lkX4_110 rfl ps_64 (by decide) (by decide) ?_
  by_cases hbd : N1.1 80 (mo p) = N1.1 64 1
  · refine e_ic_ne_f dX4_packet_100 rfl ⟨107, by decide⟩ hbd ?_
    refine e_iconst (v := nI 0) dX4_packet_103 rfl ic_0 ?_
    refine e_goto (tgt := 108) dX4_packet_104 (by decide) ?_
    refine e_iadd dX4_packet_108 rfl ?_
    refine e_iast dX4_packet_109 rfl ps_79 (by decide) rfl (by omega) ?_
    refine e_aload_0 dX4_packet_110 rfl ?_
    refine e_getR dX4_packet_111 rfl lkX4_56 rfl ps_64 (by decide) (by decide) (mr_of (a1.mr hmr) rfl) ?_
    refine e_iload_5 dX4_packet_114 rfl ?_
    refine e_aload_0 dX4_packet_116 rfl ?_
    refine e_getI dX4_packet_117 rfl lkX4_110 rfl ps_64 (by decide) (by decide) ?_
    refine e_iast dX4_packet_120 rfl ps_80 (by decide) rfl (by omega) ?_
    refine e_aload_0 dX4_packet_121 rfl ?_
    refine e_getR dX4_packet_122 rfl lkX4_35 rfl ps_64 (by decide) (by decide) (mr_of (a1.mr hmr) rfl) ?_
    refine e_iload_5 dX4_packet_125 rfl ?_
    refine e_zald dX4_packet_127 rfl ps_73 (by decide) rfl (by omega) ?_
    by_cases hac : M.1 73 (mo p) = 0
    · refine e_if_eq_t (tgt := 136) dX4_packet_128 (by decide) ((a1.at (Or.inl (by decide))).trans hac) ?_
      refine e_bipush (v := nI 100) dX4_packet_136 rfl bc_100 ?_
      exact e_iret dX4_packet_138 rfl (pk_charN (by decide)).1 (Nat.le_of_ble_eq_true rfl) (Nat.le_of_ble_eq_true rfl) (if_pos hac).symm (by rw [mhM, if_pos hbd]; rfl)
    · refine e_if_eq_f dX4_packet_128 rfl ⟨136, by decide⟩ (fun z => hac ((a1.at (Or.inl (by decide))).symm.trans z)) ?_
      refine e_bipush (v := nI 97) dX4_packet_131 rfl bc_97 ?_
      refine e_goto (tgt := 138) dX4_packet_133 (by decide) ?_
      exact e_iret dX4_packet_138 rfl (pk_charN (by decide)).1 (Nat.le_of_ble_eq_true rfl) (Nat.le_of_ble_eq_true rfl) (if_neg hac).symm (by rw [mhM, if_pos hbd]; rfl)
  · refine e_ic_ne_t (tgt := 107) dX4_packet_100 (by decide) hbd ?_
    refine e_iconst (v := nI 1) dX4_packet_107 rfl ic_1 ?_
    refine e_iadd dX4_packet_108 rfl ?_
    refine e_iast dX4_packet_109 rfl ps_79 (by decide) rfl (by omega) ?_
    refine e_aload_0 dX4_packet_110 rfl ?_
    refine e_getR dX4_packet_111 rfl lkX4_56 rfl ps_64 (by decide) (by decide) (mr_of (a1.mr hmr) rfl) ?_
    refine e_iload_5 dX4_packet_114 rfl ?_
    refine e_aload_0 dX4_packet_116 rfl ?_
    refine e_getI dX4_packet_117 rfl lkX4_110 rfl ps_64 (by decide) (by decide) ?_
    refine e_iast dX4_packet_120 rfl ps_80 (by decide) rfl (by omega) ?_
    refine e_aload_0 dX4_packet_121 rfl ?_
    refine e_getR dX4_packet_122 rfl lkX4_35 rfl ps_64 (by decide) (by decide) (mr_of (a1.mr hmr) rfl) ?_
    refine e_iload_5 dX4_packet_125 rfl ?_
    refine e_zald dX4_packet_127 rfl ps_73 (by decide) rfl (by omega) ?_
    by_cases hac : M.1 73 (mo p) = 0
    · refine e_if_eq_t (tgt := 136) dX4_packet_128 (by decide) ((a1.at (Or.inl (by decide))).trans hac) ?_
      refine e_bipush (v := nI 100) dX4_packet_136 rfl bc_100 ?_
      exact e_iret dX4_packet_138 rfl (pk_charN (by decide)).1 (Nat.le_of_ble_eq_true rfl) (Nat.le_of_ble_eq_true rfl) (if_pos hac).symm (by rw [mhM, if_neg hbd]; rfl)
    · refine e_if_eq_f dX4_packet_128 rfl ⟨136, by decide⟩ (fun z => hac ((a1.at (Or.inl (by decide))).symm.trans z)) ?_
      refine e_bipush (v := nI 97) dX4_packet_131 rfl bc_97 ?_
      refine e_goto (tgt := 138) dX4_packet_133 (by decide) ?_
      exact e_iret dX4_packet_138 rfl (pk_charN (by decide)).1 (Nat.le_of_ble_eq_true rfl) (Nat.le_of_ble_eq_true rfl) (if_neg hac).symm (by rw [mhM, if_neg hbd]; rfl)
theorem m_packet_no {l : Launch} (hf : l.stackTraces = false) {M N : pmM} (hN : MS M N) {od : Nat → Nat} (hmr : M.2.1 = mrC od) {oc rc : Nat} {rg mc : Nat → Nat} {lo hi mb : Nat → Nat → Nat} {mo : Nat → Nat} (hO : MO M oc rg mc lo hi mb) (hmc : M.1 64 8 = nI rc) (h8 : rc ≤ 8) (hmo : ∀ p, p < rc → M.1 70 p = nI (mo p) ∧ mo p < 8) (hfo : OBF M mo rc oc) {bk : Nat → Nat} (hbk : bk = (bkC M (ScF oc rg mc lo hi mb (-1) (nI 0)) mo rc)) {a b c : Nat} (ha : a < 32) (hb : b < 32) (hc : c < 32) (hn : ∀ q, q < rc → (bk a &&& bk (32 + b) &&& bk (64 + c)).testBit q = false) : ∃ N', MS M N' ∧ N'.1 64 0 = nI 0 ∧ Sp l kX4_packet 86 3 0 0 [.ref 64, .int (nI a), .int (nI b), .int (nI c)] N (.inl (some (.int (nI 100)))) N' := by
  have hM0 := hN.cd 0
  have hrc : ∀ {P : pmM}, MS M P → P.1 64 8 = nI rc := fun h => (h.at (Or.inr ⟨rfl, by decide⟩)).trans hmc
  have hor : ∀ {P : pmM}, MS M P → ∀ p, p < rc → P.1 70 p = nI (mo p) := fun h p hp => (h.at (Or.inl (by decide))).trans (hmo p hp).1
  have hor2 : ∀ {P : pmM}, MS M P → ∀ p, p < rc → P.1 70 p = nI (mo p) ∧ mo p < 8 := fun h p hp => ⟨hor h p hp, (hmo p hp).2⟩
  have h72 : ∀ {P : pmM}, MS M P → ∀ s, P.1 72 s = M.1 72 s := fun h s => h.at (Or.inl (by decide))
  obtain ⟨N1, a1, a2, a3, a4, a5, a6⟩ := m_laysNow2 hf hM0 hmr hO hmc h8 hmo hfo
  rw [← hbk] at a3
  refine ⟨N1, a1, a2, ?_⟩
  refine sp_of hf (by decide +kernel) (Nat.le_of_ble_eq_true rfl) (by intro v hv; simp at hv; rcases hv with rfl | rfl | rfl | rfl <;> rfl) rfl ?_
  refine e_aload_0 dX4_packet_0 rfl ?_
  refine e_iload_1 dX4_packet_1 rfl ?_
  refine e_iload_2 dX4_packet_2 rfl ?_
  refine e_iload_3 dX4_packet_3 rfl ?_
  refine e_callS dX4_packet_4 rfl csX4_140 (m_isPacket_y hf ha hb hc) rfl rfl ⟨Nat.le_of_ble_eq_true rfl, Nat.le_of_ble_eq_true rfl⟩ ⟨Nat.le_of_ble_eq_true rfl, Nat.le_of_ble_eq_true rfl⟩ rfl rfl (Nat.le_of_ble_eq_true rfl) ?_
  refine e_if_eq_f dX4_packet_7 rfl ⟨14, by decide⟩ (by decide) ?_
  refine e_iconst (v := nI 0) dX4_packet_10 rfl ic_0 ?_
  refine e_goto (tgt := 15) dX4_packet_11 (by decide) ?_
  refine e_putI dX4_packet_15 rfl lkX4_68 rfl rfl rfl ps_64 (by decide) (by decide) ?_
  refine e_aload_0 dX4_packet_18 rfl ?_
  refine e_getI dX4_packet_19 rfl lkX4_68 rfl ps_64 (by decide) (by decide) ?_
  refine e_topi (nI 0) rfl ?_
  refine e_if_le_t (tgt := 27) dX4_packet_22 (by decide) (by decide) ?_
  refine e_aload_0 dX4_packet_27 rfl ?_
  refine e_callV dX4_packet_28 rfl csX4_130 a6 rfl rfl ps_64 (by decide) (by decide) ⟨Nat.le_of_ble_eq_true rfl, Nat.le_of_ble_eq_true rfl⟩ ⟨Nat.le_of_ble_eq_true rfl, Nat.le_of_ble_eq_true rfl⟩ rfl rfl (Nat.le_of_ble_eq_true rfl) ?_
  refine e_pop dX4_packet_31 rfl rfl ?_
  refine e_aload_0 dX4_packet_32 rfl ?_
  refine e_iload_1 dX4_packet_33 rfl ?_
  refine e_iload_2 dX4_packet_34 rfl ?_
  refine e_iload_3 dX4_packet_35 rfl ?_
  refine e_callV dX4_packet_36 rfl csX4_143 (m_deciding_no hf (a1.mr hmr) (hrc a1) h8 a3 ha hb hc hn) rfl rfl ps_64 (by decide) (by decide) ⟨Nat.le_of_ble_eq_true rfl, Nat.le_of_ble_eq_true rfl⟩ ⟨Nat.le_of_ble_eq_true rfl, Nat.le_of_ble_eq_true rfl⟩ rfl rfl (Nat.le_of_ble_eq_true rfl) ?_
  refine e_istore_4 dX4_packet_39 rfl (Nat.le_of_ble_eq_true rfl) rfl ?_
  refine e_iload_4 dX4_packet_41 rfl ?_
  refine e_iconst (v := -1) dX4_packet_43 rfl ic_m1 ?_
  refine e_ic_ne_f dX4_packet_44 rfl ⟨50, by decide⟩ rfl ?_
  refine e_bipush (v := nI 100) dX4_packet_47 rfl bc_100 ?_
  exact e_iret dX4_packet_49 rfl (pk_charN (by decide)).1 (Nat.le_of_ble_eq_true rfl) (Nat.le_of_ble_eq_true rfl) rfl rfl
theorem m_packet_bad {l : Launch} (hf : l.stackTraces = false) {M N : pmM} (hN : MS M N) {od : Nat → Nat} (hmr : M.2.1 = mrC od) {oc rc : Nat} {rg mc : Nat → Nat} {lo hi mb : Nat → Nat → Nat} {mo : Nat → Nat} (hO : MO M oc rg mc lo hi mb) (hmc : M.1 64 8 = nI rc) (h8 : rc ≤ 8) (hmo : ∀ p, p < rc → M.1 70 p = nI (mo p) ∧ mo p < 8) (hfo : OBF M mo rc oc) {x y z : Int32} (hx : ¬ (vp_in x 32 ∧ vp_in y 32 ∧ vp_in z 32)) : ∃ N', MS M N' ∧ N'.1 64 0 = nI 1 ∧ Sp l kX4_packet 86 3 0 0 [.ref 64, .int x, .int y, .int z] N (.inl (some (.int (nI 0)))) N' := by
  have hM0 := hN.cd 0
  have hrc : ∀ {P : pmM}, MS M P → P.1 64 8 = nI rc := fun h => (h.at (Or.inr ⟨rfl, by decide⟩)).trans hmc
  have hor : ∀ {P : pmM}, MS M P → ∀ p, p < rc → P.1 70 p = nI (mo p) := fun h p hp => (h.at (Or.inl (by decide))).trans (hmo p hp).1
  have hor2 : ∀ {P : pmM}, MS M P → ∀ p, p < rc → P.1 70 p = nI (mo p) ∧ mo p < 8 := fun h p hp => ⟨hor h p hp, (hmo p hp).2⟩
  have h72 : ∀ {P : pmM}, MS M P → ∀ s, P.1 72 s = M.1 72 s := fun h s => h.at (Or.inl (by decide))
  refine ⟨cdM N 1, hN.cd 1, rfl, ?_⟩
  refine sp_of hf (by decide +kernel) (Nat.le_of_ble_eq_true rfl) (by intro v hv; simp at hv; rcases hv with rfl | rfl | rfl | rfl <;> rfl) rfl ?_
  refine e_aload_0 dX4_packet_0 rfl ?_
  refine e_iload_1 dX4_packet_1 rfl ?_
  refine e_iload_2 dX4_packet_2 rfl ?_
  refine e_iload_3 dX4_packet_3 rfl ?_
  refine e_callS dX4_packet_4 rfl csX4_140 (m_isPacket_n hf hx) rfl rfl ⟨Nat.le_of_ble_eq_true rfl, Nat.le_of_ble_eq_true rfl⟩ ⟨Nat.le_of_ble_eq_true rfl, Nat.le_of_ble_eq_true rfl⟩ rfl rfl (Nat.le_of_ble_eq_true rfl) ?_
  refine e_if_eq_t (tgt := 14) dX4_packet_7 (by decide) rfl ?_
  refine e_iconst (v := nI 1) dX4_packet_14 rfl ic_1 ?_
  refine e_putI dX4_packet_15 rfl lkX4_68 rfl rfl rfl ps_64 (by decide) (by decide) ?_
  refine e_aload_0 dX4_packet_18 rfl ?_
  refine e_getI dX4_packet_19 rfl lkX4_68 rfl ps_64 (by decide) (by decide) ?_
  refine e_topi (nI 1) rfl ?_
  refine e_if_le_f dX4_packet_22 rfl ⟨27, by decide⟩ (by decide) ?_
  refine e_iconst (v := nI 0) dX4_packet_25 rfl ic_0 ?_
  exact e_iret dX4_packet_26 rfl (pk_charN (by decide)).1 (Nat.le_of_ble_eq_true rfl) (Nat.le_of_ble_eq_true rfl) rfl rfl
theorem m_decider_ok {l : Launch} (hf : l.stackTraces = false) {M N : pmM} (hN : MS M N) {od : Nat → Nat} (hmr : M.2.1 = mrC od) {oc rc : Nat} {rg mc : Nat → Nat} {lo hi mb : Nat → Nat → Nat} {mo : Nat → Nat} (hO : MO M oc rg mc lo hi mb) (hmc : M.1 64 8 = nI rc) (h8 : rc ≤ 8) (hmo : ∀ p, p < rc → M.1 70 p = nI (mo p) ∧ mo p < 8) (hfo : OBF M mo rc oc) {bk : Nat → Nat} (hbk : bk = (bkC M (ScF oc rg mc lo hi mb (-1) (nI 0)) mo rc)) {a b c : Nat} (ha : a < 32) (hb : b < 32) (hc : c < 32) {p : Nat} (hp : p < rc) (hx : (bk a &&& bk (32 + b) &&& bk (64 + c)).testBit p = true) (hn : ∀ q, q < p → (bk a &&& bk (32 + b) &&& bk (64 + c)).testBit q = false) : ∃ N', MS M N' ∧ N'.1 64 0 = nI 0 ∧ Sp l kX4_decider 86 3 0 0 [.ref 64, .int (nI a), .int (nI b), .int (nI c)] N (.inl (some (.int (M.1 72 (mo p))))) N' := by
  have hM0 := hN.cd 0
  have hrc : ∀ {P : pmM}, MS M P → P.1 64 8 = nI rc := fun h => (h.at (Or.inr ⟨rfl, by decide⟩)).trans hmc
  have hor : ∀ {P : pmM}, MS M P → ∀ p, p < rc → P.1 70 p = nI (mo p) := fun h p hp => (h.at (Or.inl (by decide))).trans (hmo p hp).1
  have hor2 : ∀ {P : pmM}, MS M P → ∀ p, p < rc → P.1 70 p = nI (mo p) ∧ mo p < 8 := fun h p hp => ⟨hor h p hp, (hmo p hp).2⟩
  have h72 : ∀ {P : pmM}, MS M P → ∀ s, P.1 72 s = M.1 72 s := fun h s => h.at (Or.inl (by decide))
  obtain ⟨N1, a1, a2, a3, a4, a5, a6⟩ := m_laysNow2 hf hM0 hmr hO hmc h8 hmo hfo
  rw [← hbk] at a3
  have hs := (hmo p hp).2
  refine ⟨N1, a1, a2, ?_⟩
  refine sp_of hf (by decide +kernel) (Nat.le_of_ble_eq_true rfl) (by intro v hv; simp at hv; rcases hv with rfl | rfl | rfl | rfl <;> rfl) rfl ?_
  refine e_aload_0 dX4_decider_0 rfl ?_
  refine e_iconst (v := nI 0) dX4_decider_1 rfl ic_0 ?_
  refine e_putI dX4_decider_2 rfl lkX4_68 rfl rfl rfl ps_64 (by decide) (by decide) ?_
  refine e_iload_1 dX4_decider_5 rfl ?_
  refine e_iload_2 dX4_decider_6 rfl ?_
  refine e_iload_3 dX4_decider_7 rfl ?_
  refine e_callS dX4_decider_8 rfl csX4_140 (m_isPacket_y hf ha hb hc) rfl rfl ⟨Nat.le_of_ble_eq_true rfl, Nat.le_of_ble_eq_true rfl⟩ ⟨Nat.le_of_ble_eq_true rfl, Nat.le_of_ble_eq_true rfl⟩ rfl rfl (Nat.le_of_ble_eq_true rfl) ?_
  refine e_if_ne_t (tgt := 20) dX4_decider_11 (by decide) (by decide) ?_
  refine e_aload_0 dX4_decider_20 rfl ?_
  refine e_callV dX4_decider_21 rfl csX4_130 a6 rfl rfl ps_64 (by decide) (by decide) ⟨Nat.le_of_ble_eq_true rfl, Nat.le_of_ble_eq_true rfl⟩ ⟨Nat.le_of_ble_eq_true rfl, Nat.le_of_ble_eq_true rfl⟩ rfl rfl (Nat.le_of_ble_eq_true rfl) ?_
  refine e_pop dX4_decider_24 rfl rfl ?_
  refine e_aload_0 dX4_decider_25 rfl ?_
  refine e_iload_1 dX4_decider_26 rfl ?_
  refine e_iload_2 dX4_decider_27 rfl ?_
  refine e_iload_3 dX4_decider_28 rfl ?_
  refine e_callV dX4_decider_29 rfl csX4_143 (m_deciding_ok hf (a1.mr hmr) (hrc a1) h8 a3 ha hb hc hp hx hn) rfl rfl ps_64 (by decide) (by decide) ⟨Nat.le_of_ble_eq_true rfl, Nat.le_of_ble_eq_true rfl⟩ ⟨Nat.le_of_ble_eq_true rfl, Nat.le_of_ble_eq_true rfl⟩ rfl rfl (Nat.le_of_ble_eq_true rfl) ?_
  refine e_istore_4 dX4_decider_32 rfl (Nat.le_of_ble_eq_true rfl) rfl ?_
  refine e_iload_4 dX4_decider_34 rfl ?_
  refine e_iconst (v := -1) dX4_decider_36 rfl ic_m1 ?_
  refine e_ic_ne_t (tgt := 44) dX4_decider_37 (by decide) (nI_m1 (by omega)) ?_
  refine e_aload_0 dX4_decider_44 rfl ?_
  refine e_getR dX4_decider_45 rfl lkX4_32 rfl ps_64 (by decide) (by decide) (mr_of (a1.mr hmr) rfl) ?_
  refine e_aload_0 dX4_decider_48 rfl ?_
  refine e_getR dX4_decider_49 rfl lkX4_25 rfl ps_64 (by decide) (by decide) (mr_of (a1.mr hmr) rfl) ?_
  refine e_iload_4 dX4_decider_52 rfl ?_
  refine e_iald dX4_decider_54 rfl ps_70 (by decide) rfl (by omega) ?_
  refine e_topi (nI (mo p)) (hor a1 p hp) ?_
  refine e_iald dX4_decider_55 rfl ps_72 (by decide) rfl (by omega) ?_
  exact e_iret dX4_decider_56 rfl rfl (Nat.le_of_ble_eq_true rfl) (Nat.le_of_ble_eq_true rfl) (h72 a1 _) rfl
theorem m_decider_no {l : Launch} (hf : l.stackTraces = false) {M N : pmM} (hN : MS M N) {od : Nat → Nat} (hmr : M.2.1 = mrC od) {oc rc : Nat} {rg mc : Nat → Nat} {lo hi mb : Nat → Nat → Nat} {mo : Nat → Nat} (hO : MO M oc rg mc lo hi mb) (hmc : M.1 64 8 = nI rc) (h8 : rc ≤ 8) (hmo : ∀ p, p < rc → M.1 70 p = nI (mo p) ∧ mo p < 8) (hfo : OBF M mo rc oc) {bk : Nat → Nat} (hbk : bk = (bkC M (ScF oc rg mc lo hi mb (-1) (nI 0)) mo rc)) {a b c : Nat} (ha : a < 32) (hb : b < 32) (hc : c < 32) (hn : ∀ q, q < rc → (bk a &&& bk (32 + b) &&& bk (64 + c)).testBit q = false) : ∃ N', MS M N' ∧ N'.1 64 0 = nI 0 ∧ Sp l kX4_decider 86 3 0 0 [.ref 64, .int (nI a), .int (nI b), .int (nI c)] N (.inl (some (.int (-1)))) N' := by
  have hM0 := hN.cd 0
  have hrc : ∀ {P : pmM}, MS M P → P.1 64 8 = nI rc := fun h => (h.at (Or.inr ⟨rfl, by decide⟩)).trans hmc
  have hor : ∀ {P : pmM}, MS M P → ∀ p, p < rc → P.1 70 p = nI (mo p) := fun h p hp => (h.at (Or.inl (by decide))).trans (hmo p hp).1
  have hor2 : ∀ {P : pmM}, MS M P → ∀ p, p < rc → P.1 70 p = nI (mo p) ∧ mo p < 8 := fun h p hp => ⟨hor h p hp, (hmo p hp).2⟩
  have h72 : ∀ {P : pmM}, MS M P → ∀ s, P.1 72 s = M.1 72 s := fun h s => h.at (Or.inl (by decide))
  obtain ⟨N1, a1, a2, a3, a4, a5, a6⟩ := m_laysNow2 hf hM0 hmr hO hmc h8 hmo hfo
  rw [← hbk] at a3
  refine ⟨N1, a1, a2, ?_⟩
  refine sp_of hf (by decide +kernel) (Nat.le_of_ble_eq_true rfl) (by intro v hv; simp at hv; rcases hv with rfl | rfl | rfl | rfl <;> rfl) rfl ?_
  refine e_aload_0 dX4_decider_0 rfl ?_
  refine e_iconst (v := nI 0) dX4_decider_1 rfl ic_0 ?_
  refine e_putI dX4_decider_2 rfl lkX4_68 rfl rfl rfl ps_64 (by decide) (by decide) ?_
  refine e_iload_1 dX4_decider_5 rfl ?_
  refine e_iload_2 dX4_decider_6 rfl ?_
  refine e_iload_3 dX4_decider_7 rfl ?_
  refine e_callS dX4_decider_8 rfl csX4_140 (m_isPacket_y hf ha hb hc) rfl rfl ⟨Nat.le_of_ble_eq_true rfl, Nat.le_of_ble_eq_true rfl⟩ ⟨Nat.le_of_ble_eq_true rfl, Nat.le_of_ble_eq_true rfl⟩ rfl rfl (Nat.le_of_ble_eq_true rfl) ?_
  refine e_if_ne_t (tgt := 20) dX4_decider_11 (by decide) (by decide) ?_
  refine e_aload_0 dX4_decider_20 rfl ?_
  refine e_callV dX4_decider_21 rfl csX4_130 a6 rfl rfl ps_64 (by decide) (by decide) ⟨Nat.le_of_ble_eq_true rfl, Nat.le_of_ble_eq_true rfl⟩ ⟨Nat.le_of_ble_eq_true rfl, Nat.le_of_ble_eq_true rfl⟩ rfl rfl (Nat.le_of_ble_eq_true rfl) ?_
  refine e_pop dX4_decider_24 rfl rfl ?_
  refine e_aload_0 dX4_decider_25 rfl ?_
  refine e_iload_1 dX4_decider_26 rfl ?_
  refine e_iload_2 dX4_decider_27 rfl ?_
  refine e_iload_3 dX4_decider_28 rfl ?_
  refine e_callV dX4_decider_29 rfl csX4_143 (m_deciding_no hf (a1.mr hmr) (hrc a1) h8 a3 ha hb hc hn) rfl rfl ps_64 (by decide) (by decide) ⟨Nat.le_of_ble_eq_true rfl, Nat.le_of_ble_eq_true rfl⟩ ⟨Nat.le_of_ble_eq_true rfl, Nat.le_of_ble_eq_true rfl⟩ rfl rfl (Nat.le_of_ble_eq_true rfl) ?_
  refine e_istore_4 dX4_decider_32 rfl (Nat.le_of_ble_eq_true rfl) rfl ?_
  refine e_iload_4 dX4_decider_34 rfl ?_
  refine e_iconst (v := -1) dX4_decider_36 rfl ic_m1 ?_
  refine e_ic_ne_f dX4_decider_37 rfl ⟨44, by decide⟩ rfl ?_
  refine e_iconst (v := -1) dX4_decider_40 rfl ic_m1 ?_
  refine e_goto (tgt := 56) dX4_decider_41 (by decide) ?_
  exact e_iret dX4_decider_56 rfl rfl (Nat.le_of_ble_eq_true rfl) (Nat.le_of_ble_eq_true rfl) rfl rfl
theorem m_decider_bad {l : Launch} (hf : l.stackTraces = false) {M N : pmM} (hN : MS M N) {od : Nat → Nat} (hmr : M.2.1 = mrC od) {oc rc : Nat} {rg mc : Nat → Nat} {lo hi mb : Nat → Nat → Nat} {mo : Nat → Nat} (hO : MO M oc rg mc lo hi mb) (hmc : M.1 64 8 = nI rc) (h8 : rc ≤ 8) (hmo : ∀ p, p < rc → M.1 70 p = nI (mo p) ∧ mo p < 8) (hfo : OBF M mo rc oc) {x y z : Int32} (hx : ¬ (vp_in x 32 ∧ vp_in y 32 ∧ vp_in z 32)) : ∃ N', MS M N' ∧ N'.1 64 0 = nI 1 ∧ Sp l kX4_decider 86 3 0 0 [.ref 64, .int x, .int y, .int z] N (.inl (some (.int (nI 0)))) N' := by
  have hM0 := hN.cd 0
  have hrc : ∀ {P : pmM}, MS M P → P.1 64 8 = nI rc := fun h => (h.at (Or.inr ⟨rfl, by decide⟩)).trans hmc
  have hor : ∀ {P : pmM}, MS M P → ∀ p, p < rc → P.1 70 p = nI (mo p) := fun h p hp => (h.at (Or.inl (by decide))).trans (hmo p hp).1
  have hor2 : ∀ {P : pmM}, MS M P → ∀ p, p < rc → P.1 70 p = nI (mo p) ∧ mo p < 8 := fun h p hp => ⟨hor h p hp, (hmo p hp).2⟩
  have h72 : ∀ {P : pmM}, MS M P → ∀ s, P.1 72 s = M.1 72 s := fun h s => h.at (Or.inl (by decide))
  refine ⟨cdM (cdM N 0) 1, hM0.cd 1, rfl, ?_⟩
  refine sp_of hf (by decide +kernel) (Nat.le_of_ble_eq_true rfl) (by intro v hv; simp at hv; rcases hv with rfl | rfl | rfl | rfl <;> rfl) rfl ?_
  refine e_aload_0 dX4_decider_0 rfl ?_
  refine e_iconst (v := nI 0) dX4_decider_1 rfl ic_0 ?_
  refine e_putI dX4_decider_2 rfl lkX4_68 rfl rfl rfl ps_64 (by decide) (by decide) ?_
  refine e_iload_1 dX4_decider_5 rfl ?_
  refine e_iload_2 dX4_decider_6 rfl ?_
  refine e_iload_3 dX4_decider_7 rfl ?_
  refine e_callS dX4_decider_8 rfl csX4_140 (m_isPacket_n hf hx) rfl rfl ⟨Nat.le_of_ble_eq_true rfl, Nat.le_of_ble_eq_true rfl⟩ ⟨Nat.le_of_ble_eq_true rfl, Nat.le_of_ble_eq_true rfl⟩ rfl rfl (Nat.le_of_ble_eq_true rfl) ?_
  refine e_if_ne_f dX4_decider_11 rfl ⟨20, by decide⟩ (by decide) ?_
  refine e_aload_0 dX4_decider_14 rfl ?_
  refine e_iconst (v := nI 1) dX4_decider_15 rfl ic_1 ?_
  refine e_callV dX4_decider_16 rfl csX4_90 (m_fails (k := 1) hf (hM0.mr hmr)) rfl rfl ps_64 (by decide) (by decide) ⟨Nat.le_of_ble_eq_true rfl, Nat.le_of_ble_eq_true rfl⟩ ⟨Nat.le_of_ble_eq_true rfl, Nat.le_of_ble_eq_true rfl⟩ rfl rfl (Nat.le_of_ble_eq_true rfl) ?_
  exact e_iret dX4_decider_19 rfl rfl (Nat.le_of_ble_eq_true rfl) (Nat.le_of_ble_eq_true rfl) rfl rfl
theorem m_decided_ok {l : Launch} (hf : l.stackTraces = false) {M N : pmM} (hN : MS M N) {od : Nat → Nat} (hmr : M.2.1 = mrC od) {oc rc : Nat} {rg mc : Nat → Nat} {lo hi mb : Nat → Nat → Nat} {mo : Nat → Nat} (hO : MO M oc rg mc lo hi mb) (hmc : M.1 64 8 = nI rc) (h8 : rc ≤ 8) (hmo : ∀ p, p < rc → M.1 70 p = nI (mo p) ∧ mo p < 8) (hfo : OBF M mo rc oc) {x : Int32} {p : Nat} (hp : p < rc) (hx : M.1 72 (mo p) = x) (hn : ∀ q, q < p → M.1 72 (mo q) ≠ x) : ∃ N', MS M N' ∧ N'.1 64 0 = nI 0 ∧ Sp l kX4_decided 86 3 0 0 [.ref 64, .int x] N (.inl (some (.int (nI (dcN (bkC M (ScF oc rg mc lo hi mb (-1) (nI 0)) mo rc) p))))) N' := by
  have hM0 := hN.cd 0
  have hrc : ∀ {P : pmM}, MS M P → P.1 64 8 = nI rc := fun h => (h.at (Or.inr ⟨rfl, by decide⟩)).trans hmc
  have hor : ∀ {P : pmM}, MS M P → ∀ p, p < rc → P.1 70 p = nI (mo p) := fun h p hp => (h.at (Or.inl (by decide))).trans (hmo p hp).1
  have hor2 : ∀ {P : pmM}, MS M P → ∀ p, p < rc → P.1 70 p = nI (mo p) ∧ mo p < 8 := fun h p hp => ⟨hor h p hp, (hmo p hp).2⟩
  have h72 : ∀ {P : pmM}, MS M P → ∀ s, P.1 72 s = M.1 72 s := fun h s => h.at (Or.inl (by decide))
  obtain ⟨N1, a1, a2, a3, a4, a5, a6⟩ := m_laysNow2 hf hM0 hmr hO hmc h8 hmo hfo
  refine ⟨N1, a1, a2, ?_⟩
  refine sp_of hf (by decide +kernel) (Nat.le_of_ble_eq_true rfl) (by intro v hv; simp at hv; rcases hv with rfl | rfl <;> rfl) rfl ?_
  refine e_aload_0 dX4_decided_0 rfl ?_
  refine e_iconst (v := nI 0) dX4_decided_1 rfl ic_0 ?_
  refine e_putI dX4_decided_2 rfl lkX4_68 rfl rfl rfl ps_64 (by decide) (by decide) ?_
  refine e_aload_0 dX4_decided_5 rfl ?_
  refine e_iload_1 dX4_decided_6 rfl ?_
  refine e_callV dX4_decided_7 rfl csX4_82 (m_positionOf_ok hf (hM0.mr hmr) (hrc hM0) h8 (hor2 hM0) hp ((h72 hM0 _).trans hx) (fun q hq => by rw [h72 hM0]; exact hn q hq)) rfl rfl ps_64 (by decide) (by decide) ⟨Nat.le_of_ble_eq_true rfl, Nat.le_of_ble_eq_true rfl⟩ ⟨Nat.le_of_ble_eq_true rfl, Nat.le_of_ble_eq_true rfl⟩ rfl rfl (Nat.le_of_ble_eq_true rfl) ?_
  refine e_istore_2 dX4_decided_10 rfl (Nat.le_of_ble_eq_true rfl) rfl ?_
  refine e_iload_2 dX4_decided_11 rfl ?_
  refine e_iconst (v := -1) dX4_decided_12 rfl ic_m1 ?_
  refine e_ic_ne_t (tgt := 22) dX4_decided_13 (by decide) (nI_m1 (by omega)) ?_
  refine e_aload_0 dX4_decided_22 rfl ?_
  refine e_callV dX4_decided_23 rfl csX4_130 a6 rfl rfl ps_64 (by decide) (by decide) ⟨Nat.le_of_ble_eq_true rfl, Nat.le_of_ble_eq_true rfl⟩ ⟨Nat.le_of_ble_eq_true rfl, Nat.le_of_ble_eq_true rfl⟩ rfl rfl (Nat.le_of_ble_eq_true rfl) ?_
  refine e_pop dX4_decided_26 rfl rfl ?_
  refine e_aload_0 dX4_decided_27 rfl ?_
  refine e_iload_2 dX4_decided_28 rfl ?_
  refine e_callV dX4_decided_29 rfl csX4_147 (m_decidingP hf (a1.mr hmr) a3 (by omega)) rfl rfl ps_64 (by decide) (by decide) ⟨Nat.le_of_ble_eq_true rfl, Nat.le_of_ble_eq_true rfl⟩ ⟨Nat.le_of_ble_eq_true rfl, Nat.le_of_ble_eq_true rfl⟩ rfl rfl (Nat.le_of_ble_eq_true rfl) ?_
  exact e_iret dX4_decided_32 rfl rfl (Nat.le_of_ble_eq_true rfl) (Nat.le_of_ble_eq_true rfl) rfl rfl
theorem m_decided_nr {l : Launch} (hf : l.stackTraces = false) {M N : pmM} (hN : MS M N) {od : Nat → Nat} (hmr : M.2.1 = mrC od) {oc rc : Nat} {rg mc : Nat → Nat} {lo hi mb : Nat → Nat → Nat} {mo : Nat → Nat} (hO : MO M oc rg mc lo hi mb) (hmc : M.1 64 8 = nI rc) (h8 : rc ≤ 8) (hmo : ∀ p, p < rc → M.1 70 p = nI (mo p) ∧ mo p < 8) (hfo : OBF M mo rc oc) {x : Int32} (hn : ∀ q, q < rc → M.1 72 (mo q) ≠ x) : ∃ N', MS M N' ∧ N'.1 64 0 = nI 1 ∧ Sp l kX4_decided 86 3 0 0 [.ref 64, .int x] N (.inl (some (.int (nI 0)))) N' := by
  have hM0 := hN.cd 0
  have hrc : ∀ {P : pmM}, MS M P → P.1 64 8 = nI rc := fun h => (h.at (Or.inr ⟨rfl, by decide⟩)).trans hmc
  have hor : ∀ {P : pmM}, MS M P → ∀ p, p < rc → P.1 70 p = nI (mo p) := fun h p hp => (h.at (Or.inl (by decide))).trans (hmo p hp).1
  have hor2 : ∀ {P : pmM}, MS M P → ∀ p, p < rc → P.1 70 p = nI (mo p) ∧ mo p < 8 := fun h p hp => ⟨hor h p hp, (hmo p hp).2⟩
  have h72 : ∀ {P : pmM}, MS M P → ∀ s, P.1 72 s = M.1 72 s := fun h s => h.at (Or.inl (by decide))
  refine ⟨cdM (cdM N 0) 1, hM0.cd 1, rfl, ?_⟩
  refine sp_of hf (by decide +kernel) (Nat.le_of_ble_eq_true rfl) (by intro v hv; simp at hv; rcases hv with rfl | rfl <;> rfl) rfl ?_
  refine e_aload_0 dX4_decided_0 rfl ?_
  refine e_iconst (v := nI 0) dX4_decided_1 rfl ic_0 ?_
  refine e_putI dX4_decided_2 rfl lkX4_68 rfl rfl rfl ps_64 (by decide) (by decide) ?_
  refine e_aload_0 dX4_decided_5 rfl ?_
  refine e_iload_1 dX4_decided_6 rfl ?_
  refine e_callV dX4_decided_7 rfl csX4_82 (m_positionOf_no hf (hM0.mr hmr) (hrc hM0) h8 (hor2 hM0) (fun q hq => by rw [h72 hM0]; exact hn q hq)) rfl rfl ps_64 (by decide) (by decide) ⟨Nat.le_of_ble_eq_true rfl, Nat.le_of_ble_eq_true rfl⟩ ⟨Nat.le_of_ble_eq_true rfl, Nat.le_of_ble_eq_true rfl⟩ rfl rfl (Nat.le_of_ble_eq_true rfl) ?_
  refine e_istore_2 dX4_decided_10 rfl (Nat.le_of_ble_eq_true rfl) rfl ?_
  refine e_iload_2 dX4_decided_11 rfl ?_
  refine e_iconst (v := -1) dX4_decided_12 rfl ic_m1 ?_
  refine e_ic_ne_f dX4_decided_13 rfl ⟨22, by decide⟩ rfl ?_
  refine e_aload_0 dX4_decided_16 rfl ?_
  refine e_iconst (v := nI 1) dX4_decided_17 rfl ic_1 ?_
  refine e_callV dX4_decided_18 rfl csX4_90 (m_fails (k := 1) hf (hM0.mr hmr)) rfl rfl ps_64 (by decide) (by decide) ⟨Nat.le_of_ble_eq_true rfl, Nat.le_of_ble_eq_true rfl⟩ ⟨Nat.le_of_ble_eq_true rfl, Nat.le_of_ble_eq_true rfl⟩ rfl rfl (Nat.le_of_ble_eq_true rfl) ?_
  exact e_iret dX4_decided_21 rfl rfl (Nat.le_of_ble_eq_true rfl) (Nat.le_of_ble_eq_true rfl) rfl rfl
theorem m_decidedBySamples_ok {l : Launch} (hf : l.stackTraces = false) {M N : pmM} (hN : MS M N) {od : Nat → Nat} (hmr : M.2.1 = mrC od) {oc rc : Nat} {rg mc : Nat → Nat} {lo hi mb : Nat → Nat → Nat} {mo : Nat → Nat} (hO : MO M oc rg mc lo hi mb) (hmc : M.1 64 8 = nI rc) (h8 : rc ≤ 8) (hmo : ∀ p, p < rc → M.1 70 p = nI (mo p) ∧ mo p < 8) (hfo : OBF M mo rc oc) {x : Int32} {p : Nat} (hp : p < rc) (hx : M.1 72 (mo p) = x) (hn : ∀ q, q < p → M.1 72 (mo q) ≠ x) : ∃ N', MS M N' ∧ N'.1 64 0 = nI 0 ∧ Sp l kX4_decidedBySamples 86 4 0 0 [.ref 64, .int x] N (.inl (some (.int (nI (dcN (bkC M (ScF oc rg mc lo hi mb (-1) (nI 0)) mo rc) p))))) N' := by
  have hM0 := hN.cd 0
  have hrc : ∀ {P : pmM}, MS M P → P.1 64 8 = nI rc := fun h => (h.at (Or.inr ⟨rfl, by decide⟩)).trans hmc
  have hor : ∀ {P : pmM}, MS M P → ∀ p, p < rc → P.1 70 p = nI (mo p) := fun h p hp => (h.at (Or.inl (by decide))).trans (hmo p hp).1
  have hor2 : ∀ {P : pmM}, MS M P → ∀ p, p < rc → P.1 70 p = nI (mo p) ∧ mo p < 8 := fun h p hp => ⟨hor h p hp, (hmo p hp).2⟩
  have h72 : ∀ {P : pmM}, MS M P → ∀ s, P.1 72 s = M.1 72 s := fun h s => h.at (Or.inl (by decide))
  obtain ⟨N1, a1, a2, a3⟩ := m_decided_ok hf hN hmr hO hmc h8 hmo hfo hp hx hn
  refine ⟨N1, a1, a2, ?_⟩
  refine sp_of hf (by decide +kernel) (Nat.le_of_ble_eq_true rfl) (by intro v hv; simp at hv; rcases hv with rfl | rfl <;> rfl) rfl ?_
  refine e_aload_0 dX4_decidedBySamples_0 rfl ?_
  refine e_iload_1 dX4_decidedBySamples_1 rfl ?_
  refine e_callV dX4_decidedBySamples_2 rfl csX4_149 a3 rfl rfl ps_64 (by decide) (by decide) ⟨Nat.le_of_ble_eq_true rfl, Nat.le_of_ble_eq_true rfl⟩ ⟨Nat.le_of_ble_eq_true rfl, Nat.le_of_ble_eq_true rfl⟩ rfl rfl (Nat.le_of_ble_eq_true rfl) ?_
  exact e_iret dX4_decidedBySamples_5 rfl rfl (Nat.le_of_ble_eq_true rfl) (Nat.le_of_ble_eq_true rfl) rfl rfl
theorem m_decidedBySamples_nr {l : Launch} (hf : l.stackTraces = false) {M N : pmM} (hN : MS M N) {od : Nat → Nat} (hmr : M.2.1 = mrC od) {oc rc : Nat} {rg mc : Nat → Nat} {lo hi mb : Nat → Nat → Nat} {mo : Nat → Nat} (hO : MO M oc rg mc lo hi mb) (hmc : M.1 64 8 = nI rc) (h8 : rc ≤ 8) (hmo : ∀ p, p < rc → M.1 70 p = nI (mo p) ∧ mo p < 8) (hfo : OBF M mo rc oc) {x : Int32} (hn : ∀ q, q < rc → M.1 72 (mo q) ≠ x) : ∃ N', MS M N' ∧ N'.1 64 0 = nI 1 ∧ Sp l kX4_decidedBySamples 86 4 0 0 [.ref 64, .int x] N (.inl (some (.int (nI 0)))) N' := by
  have hM0 := hN.cd 0
  have hrc : ∀ {P : pmM}, MS M P → P.1 64 8 = nI rc := fun h => (h.at (Or.inr ⟨rfl, by decide⟩)).trans hmc
  have hor : ∀ {P : pmM}, MS M P → ∀ p, p < rc → P.1 70 p = nI (mo p) := fun h p hp => (h.at (Or.inl (by decide))).trans (hmo p hp).1
  have hor2 : ∀ {P : pmM}, MS M P → ∀ p, p < rc → P.1 70 p = nI (mo p) ∧ mo p < 8 := fun h p hp => ⟨hor h p hp, (hmo p hp).2⟩
  have h72 : ∀ {P : pmM}, MS M P → ∀ s, P.1 72 s = M.1 72 s := fun h s => h.at (Or.inl (by decide))
  obtain ⟨N1, a1, a2, a3⟩ := m_decided_nr hf hN hmr hO hmc h8 hmo hfo hn
  refine ⟨N1, a1, a2, ?_⟩
  refine sp_of hf (by decide +kernel) (Nat.le_of_ble_eq_true rfl) (by intro v hv; simp at hv; rcases hv with rfl | rfl <;> rfl) rfl ?_
  refine e_aload_0 dX4_decidedBySamples_0 rfl ?_
  refine e_iload_1 dX4_decidedBySamples_1 rfl ?_
  refine e_callV dX4_decidedBySamples_2 rfl csX4_149 a3 rfl rfl ps_64 (by decide) (by decide) ⟨Nat.le_of_ble_eq_true rfl, Nat.le_of_ble_eq_true rfl⟩ ⟨Nat.le_of_ble_eq_true rfl, Nat.le_of_ble_eq_true rfl⟩ rfl rfl (Nat.le_of_ble_eq_true rfl) ?_
  exact e_iret dX4_decidedBySamples_5 rfl rfl (Nat.le_of_ble_eq_true rfl) (Nat.le_of_ble_eq_true rfl) rfl rfl
theorem m_isShadowed_ok {l : Launch} (hf : l.stackTraces = false) {M N : pmM} (hN : MS M N) {od : Nat → Nat} (hmr : M.2.1 = mrC od) {oc rc : Nat} {rg mc : Nat → Nat} {lo hi mb : Nat → Nat → Nat} {mo : Nat → Nat} (hO : MO M oc rg mc lo hi mb) (hmc : M.1 64 8 = nI rc) (h8 : rc ≤ 8) (hmo : ∀ p, p < rc → M.1 70 p = nI (mo p) ∧ mo p < 8) (hfo : OBF M mo rc oc) {x : Int32} {p : Nat} (hp : p < rc) (hx : M.1 72 (mo p) = x) (hn : ∀ q, q < p → M.1 72 (mo q) ≠ x) : ∃ N', MS M N' ∧ N'.1 64 0 = nI 0 ∧ Sp l kX4_isShadowed 86 4 0 0 [.ref 64, .int x] N (.inl (some (.int (bI (onM M (mo p) && decide (dcN (bkC M (ScF oc rg mc lo hi mb (-1) (nI 0)) mo rc) p = 0)))))) N' := by
  have hM0 := hN.cd 0
  have hrc : ∀ {P : pmM}, MS M P → P.1 64 8 = nI rc := fun h => (h.at (Or.inr ⟨rfl, by decide⟩)).trans hmc
  have hor : ∀ {P : pmM}, MS M P → ∀ p, p < rc → P.1 70 p = nI (mo p) := fun h p hp => (h.at (Or.inl (by decide))).trans (hmo p hp).1
  have hor2 : ∀ {P : pmM}, MS M P → ∀ p, p < rc → P.1 70 p = nI (mo p) ∧ mo p < 8 := fun h p hp => ⟨hor h p hp, (hmo p hp).2⟩
  have h72 : ∀ {P : pmM}, MS M P → ∀ s, P.1 72 s = M.1 72 s := fun h s => h.at (Or.inl (by decide))
  obtain ⟨N1, a1, a2, a3⟩ := m_decided_ok hf hM0 hmr hO hmc h8 hmo hfo hp hx hn
  have hs := (hmo p hp).2
  have hcl : dcN (bkC M (ScF oc rg mc lo hi mb (-1) (nI 0)) mo rc) p ≤ 32768 := cntN_le _ _
  cases ho : onM M (mo p) with
  | false =>
    refine ⟨cdM N 0, hM0, rfl, ?_⟩
    refine sp_of hf (by decide +kernel) (Nat.le_of_ble_eq_true rfl) (by intro v hv; simp at hv; rcases hv with rfl | rfl <;> rfl) rfl ?_
    refine e_aload_0 dX4_isShadowed_0 rfl ?_
    refine e_iload_1 dX4_isShadowed_1 rfl ?_
    refine e_callV dX4_isShadowed_2 rfl csX4_137 (m_slotOf_ok hf (hN.mr hmr) (hrc hN) h8 (hor2 hN) hp ((h72 hN _).trans hx) (fun q hq => by rw [h72 hN]; exact hn q hq)) rfl rfl ps_64 (by decide) (by decide) ⟨Nat.le_of_ble_eq_true rfl, Nat.le_of_ble_eq_true rfl⟩ ⟨Nat.le_of_ble_eq_true rfl, Nat.le_of_ble_eq_true rfl⟩ rfl rfl (Nat.le_of_ble_eq_true rfl) ?_
    refine e_istore_2 dX4_isShadowed_5 rfl (Nat.le_of_ble_eq_true rfl) rfl ?_
    refine e_aload_0 dX4_isShadowed_6 rfl ?_
    refine e_getI dX4_isShadowed_7 rfl lkX4_68 rfl ps_64 (by decide) (by decide) ?_
    refine e_topi (nI 0) rfl ?_
    refine e_if_ne_f dX4_isShadowed_10 rfl ⟨33, by decide⟩ (by decide) ?_
    refine e_aload_0 dX4_isShadowed_13 rfl ?_
    refine e_iload_2 dX4_isShadowed_14 rfl ?_
    refine e_callV dX4_isShadowed_15 rfl csX4_113 (m_isOn hf (hM0.mr hmr) hs) rfl rfl ps_64 (by decide) (by decide) ⟨Nat.le_of_ble_eq_true rfl, Nat.le_of_ble_eq_true rfl⟩ ⟨Nat.le_of_ble_eq_true rfl, Nat.le_of_ble_eq_true rfl⟩ rfl rfl (Nat.le_of_ble_eq_true rfl) ?_
    refine e_topi (bI (onM M (mo p))) (congrArg bI (onM_at hM0 _)) ?_
    refine e_if_eq_t (tgt := 33) dX4_isShadowed_18 (by decide) (bI0 ho) ?_
    refine e_iconst (v := nI 0) dX4_isShadowed_33 rfl ic_0 ?_
    exact e_iret dX4_isShadowed_34 rfl rfl (Nat.le_of_ble_eq_true rfl) (Nat.le_of_ble_eq_true rfl) rfl rfl
  | true =>
    refine ⟨N1, a1, a2, ?_⟩
    refine sp_of hf (by decide +kernel) (Nat.le_of_ble_eq_true rfl) (by intro v hv; simp at hv; rcases hv with rfl | rfl <;> rfl) rfl ?_
    refine e_aload_0 dX4_isShadowed_0 rfl ?_
    refine e_iload_1 dX4_isShadowed_1 rfl ?_
    refine e_callV dX4_isShadowed_2 rfl csX4_137 (m_slotOf_ok hf (hN.mr hmr) (hrc hN) h8 (hor2 hN) hp ((h72 hN _).trans hx) (fun q hq => by rw [h72 hN]; exact hn q hq)) rfl rfl ps_64 (by decide) (by decide) ⟨Nat.le_of_ble_eq_true rfl, Nat.le_of_ble_eq_true rfl⟩ ⟨Nat.le_of_ble_eq_true rfl, Nat.le_of_ble_eq_true rfl⟩ rfl rfl (Nat.le_of_ble_eq_true rfl) ?_
    refine e_istore_2 dX4_isShadowed_5 rfl (Nat.le_of_ble_eq_true rfl) rfl ?_
    refine e_aload_0 dX4_isShadowed_6 rfl ?_
    refine e_getI dX4_isShadowed_7 rfl lkX4_68 rfl ps_64 (by decide) (by decide) ?_
    refine e_topi (nI 0) rfl ?_
    refine e_if_ne_f dX4_isShadowed_10 rfl ⟨33, by decide⟩ (by decide) ?_
    refine e_aload_0 dX4_isShadowed_13 rfl ?_
    refine e_iload_2 dX4_isShadowed_14 rfl ?_
    refine e_callV dX4_isShadowed_15 rfl csX4_113 (m_isOn hf (hM0.mr hmr) hs) rfl rfl ps_64 (by decide) (by decide) ⟨Nat.le_of_ble_eq_true rfl, Nat.le_of_ble_eq_true rfl⟩ ⟨Nat.le_of_ble_eq_true rfl, Nat.le_of_ble_eq_true rfl⟩ rfl rfl (Nat.le_of_ble_eq_true rfl) ?_
    refine e_topi (bI (onM M (mo p))) (congrArg bI (onM_at hM0 _)) ?_
    refine e_if_eq_f dX4_isShadowed_18 rfl ⟨33, by decide⟩ (bI1 ho) ?_
    refine e_aload_0 dX4_isShadowed_21 rfl ?_
    refine e_iload_1 dX4_isShadowed_22 rfl ?_
    refine e_callV dX4_isShadowed_23 rfl csX4_149 a3 rfl rfl ps_64 (by decide) (by decide) ⟨Nat.le_of_ble_eq_true rfl, Nat.le_of_ble_eq_true rfl⟩ ⟨Nat.le_of_ble_eq_true rfl, Nat.le_of_ble_eq_true rfl⟩ rfl rfl (Nat.le_of_ble_eq_true rfl) ?_
    by_cases hz : dcN (bkC M (ScF oc rg mc lo hi mb (-1) (nI 0)) mo rc) p = 0
    · refine e_if_ne_f dX4_isShadowed_26 rfl ⟨33, by decide⟩ (by rw [hz]; rfl) ?_
      refine e_iconst (v := nI 1) dX4_isShadowed_29 rfl ic_1 ?_
      refine e_goto (tgt := 34) dX4_isShadowed_30 (by decide) ?_
      exact e_iret dX4_isShadowed_34 rfl rfl (Nat.le_of_ble_eq_true rfl) (Nat.le_of_ble_eq_true rfl) (by rw [decide_eq_true hz]; rfl) rfl
    · refine e_if_ne_t (tgt := 33) dX4_isShadowed_26 (by decide) (nI_ne0 (Nat.pos_of_ne_zero hz) (by omega)) ?_
      refine e_iconst (v := nI 0) dX4_isShadowed_33 rfl ic_0 ?_
      exact e_iret dX4_isShadowed_34 rfl rfl (Nat.le_of_ble_eq_true rfl) (Nat.le_of_ble_eq_true rfl) (by rw [decide_eq_false hz]; rfl) rfl
theorem m_isShadowed_nr {l : Launch} (hf : l.stackTraces = false) {M N : pmM} (hN : MS M N) {od : Nat → Nat} (hmr : M.2.1 = mrC od) {oc rc : Nat} {rg mc : Nat → Nat} {lo hi mb : Nat → Nat → Nat} {mo : Nat → Nat} (hO : MO M oc rg mc lo hi mb) (hmc : M.1 64 8 = nI rc) (h8 : rc ≤ 8) (hmo : ∀ p, p < rc → M.1 70 p = nI (mo p) ∧ mo p < 8) (hfo : OBF M mo rc oc) {x : Int32} (hn : ∀ q, q < rc → M.1 72 (mo q) ≠ x) : ∃ N', MS M N' ∧ N'.1 64 0 = nI 1 ∧ Sp l kX4_isShadowed 86 4 0 0 [.ref 64, .int x] N (.inl (some (.int (nI 0)))) N' := by
  have hM0 := hN.cd 0
  have hrc : ∀ {P : pmM}, MS M P → P.1 64 8 = nI rc := fun h => (h.at (Or.inr ⟨rfl, by decide⟩)).trans hmc
  have hor : ∀ {P : pmM}, MS M P → ∀ p, p < rc → P.1 70 p = nI (mo p) := fun h p hp => (h.at (Or.inl (by decide))).trans (hmo p hp).1
  have hor2 : ∀ {P : pmM}, MS M P → ∀ p, p < rc → P.1 70 p = nI (mo p) ∧ mo p < 8 := fun h p hp => ⟨hor h p hp, (hmo p hp).2⟩
  have h72 : ∀ {P : pmM}, MS M P → ∀ s, P.1 72 s = M.1 72 s := fun h s => h.at (Or.inl (by decide))
  refine ⟨cdM N 1, hN.cd 1, rfl, ?_⟩
  refine sp_of hf (by decide +kernel) (Nat.le_of_ble_eq_true rfl) (by intro v hv; simp at hv; rcases hv with rfl | rfl <;> rfl) rfl ?_
  refine e_aload_0 dX4_isShadowed_0 rfl ?_
  refine e_iload_1 dX4_isShadowed_1 rfl ?_
  refine e_callV dX4_isShadowed_2 rfl csX4_137 (m_slotOf_no hf (hN.mr hmr) (hrc hN) h8 (hor2 hN) (fun q hq => by rw [h72 hN]; exact hn q hq)) rfl rfl ps_64 (by decide) (by decide) ⟨Nat.le_of_ble_eq_true rfl, Nat.le_of_ble_eq_true rfl⟩ ⟨Nat.le_of_ble_eq_true rfl, Nat.le_of_ble_eq_true rfl⟩ rfl rfl (Nat.le_of_ble_eq_true rfl) ?_
  refine e_istore_2 dX4_isShadowed_5 rfl (Nat.le_of_ble_eq_true rfl) rfl ?_
  refine e_aload_0 dX4_isShadowed_6 rfl ?_
  refine e_getI dX4_isShadowed_7 rfl lkX4_68 rfl ps_64 (by decide) (by decide) ?_
  refine e_topi (nI 1) rfl ?_
  refine e_if_ne_t (tgt := 33) dX4_isShadowed_10 (by decide) (by decide) ?_
  refine e_iconst (v := nI 0) dX4_isShadowed_33 rfl ic_0 ?_
  exact e_iret dX4_isShadowed_34 rfl rfl (Nat.le_of_ble_eq_true rfl) (Nat.le_of_ble_eq_true rfl) rfl rfl
theorem m_matched_ok {l : Launch} (hf : l.stackTraces = false) {M N : pmM} (hN : MS M N) {od : Nat → Nat} (hmr : M.2.1 = mrC od) {oc rc : Nat} {rg mc : Nat → Nat} {lo hi mb : Nat → Nat → Nat} {mo : Nat → Nat} (hO : MO M oc rg mc lo hi mb) (hmc : M.1 64 8 = nI rc) (h8 : rc ≤ 8) (hmo : ∀ p, p < rc → M.1 70 p = nI (mo p) ∧ mo p < 8) (hfo : OBF M mo rc oc) {x : Int32} {p : Nat} (hp : p < rc) (hx : M.1 72 (mo p) = x) (hn : ∀ q, q < p → M.1 72 (mo q) ≠ x) : ∃ N', MS M N' ∧ N'.1 64 0 = nI 0 ∧ Sp l kX4_matched 86 2 0 0 [.ref 64, .int x] N (.inl (some (.int (nI (szC (ScF oc rg mc lo hi mb (-1) (nI 0)) (M.1 74 (3 * mo p + 0)) * szC (ScF oc rg mc lo hi mb (-1) (nI 0)) (M.1 74 (3 * mo p + 1)) * szC (ScF oc rg mc lo hi mb (-1) (nI 0)) (M.1 74 (3 * mo p + 2))))))) N' := by
  have hM0 := hN.cd 0
  have hrc : ∀ {P : pmM}, MS M P → P.1 64 8 = nI rc := fun h => (h.at (Or.inr ⟨rfl, by decide⟩)).trans hmc
  have hor : ∀ {P : pmM}, MS M P → ∀ p, p < rc → P.1 70 p = nI (mo p) := fun h p hp => (h.at (Or.inl (by decide))).trans (hmo p hp).1
  have hor2 : ∀ {P : pmM}, MS M P → ∀ p, p < rc → P.1 70 p = nI (mo p) ∧ mo p < 8 := fun h p hp => ⟨hor h p hp, (hmo p hp).2⟩
  have h72 : ∀ {P : pmM}, MS M P → ∀ s, P.1 72 s = M.1 72 s := fun h s => h.at (Or.inl (by decide))
  obtain ⟨N1, a1, a2, a4, a5, a6⟩ := m_spreads2 hf hM0 hmr hO (-1) (nI 0)
  have hs := (hmo p hp).2
  have hst : ∀ f, f < 3 → stv N1 (N1.1 74 (3 * mo p + f)) = stC (ScF oc rg mc lo hi mb (-1) (nI 0)) (M.1 74 (3 * mo p + f)) := fun f hf3 => by rw [a1.at (Or.inl (by decide)), stv_C a4 hO.1 (hfo p f hp hf3)]
  have hfk : ∀ f, f < 3 → fOk (N1.1 74 (3 * mo p + f)) := fun f hf3 => by rw [a1.at (Or.inl (by decide))]; exact (hfo p f hp hf3).fOk hO.1
  refine ⟨N1, a1, a2, ?_⟩
  refine sp_of hf (by decide +kernel) (Nat.le_of_ble_eq_true rfl) (by intro v hv; simp at hv; rcases hv with rfl | rfl <;> rfl) rfl ?_
  refine e_aload_0 dX4_matched_0 rfl ?_
  refine e_iload_1 dX4_matched_1 rfl ?_
  refine e_callV dX4_matched_2 rfl csX4_137 (m_slotOf_ok hf (hN.mr hmr) (hrc hN) h8 (hor2 hN) hp ((h72 hN _).trans hx) (fun q hq => by rw [h72 hN]; exact hn q hq)) rfl rfl ps_64 (by decide) (by decide) ⟨Nat.le_of_ble_eq_true rfl, Nat.le_of_ble_eq_true rfl⟩ ⟨Nat.le_of_ble_eq_true rfl, Nat.le_of_ble_eq_true rfl⟩ rfl rfl (Nat.le_of_ble_eq_true rfl) ?_
  refine e_istore_2 dX4_matched_5 rfl (Nat.le_of_ble_eq_true rfl) rfl ?_
  refine e_aload_0 dX4_matched_6 rfl ?_
  refine e_getI dX4_matched_7 rfl lkX4_68 rfl ps_64 (by decide) (by decide) ?_
  refine e_topi (nI 0) rfl ?_
  refine e_if_le_t (tgt := 15) dX4_matched_10 (by decide) (by decide) ?_
  refine e_aload_0 dX4_matched_15 rfl ?_
  refine e_iconst (v := -1) dX4_matched_16 rfl ic_m1 ?_
  refine e_iconst (v := nI 0) dX4_matched_17 rfl ic_0 ?_
  refine e_callV dX4_matched_18 rfl csX4_103 a6 rfl rfl ps_64 (by decide) (by decide) ⟨Nat.le_of_ble_eq_true rfl, Nat.le_of_ble_eq_true rfl⟩ ⟨Nat.le_of_ble_eq_true rfl, Nat.le_of_ble_eq_true rfl⟩ rfl rfl (Nat.le_of_ble_eq_true rfl) ?_
  refine e_aload_0 dX4_matched_21 rfl ?_
  refine e_iload_2 dX4_matched_22 rfl ?_
  refine e_iconst (v := nI 0) dX4_matched_23 rfl ic_0 ?_
  refine e_callV dX4_matched_24 rfl csX4_116 (m_setOf hf (a1.mr hmr) hs (by decide) (hfk 0 (by decide))) rfl rfl ps_64 (by decide) (by decide) ⟨Nat.le_of_ble_eq_true rfl, Nat.le_of_ble_eq_true rfl⟩ ⟨Nat.le_of_ble_eq_true rfl, Nat.le_of_ble_eq_true rfl⟩ rfl rfl (Nat.le_of_ble_eq_true rfl) ?_
  refine e_topi (stC (ScF oc rg mc lo hi mb (-1) (nI 0)) (M.1 74 (3 * mo p + 0))) (hst 0 (by decide)) ?_
  refine e_callS dX4_matched_27 rfl csX4_107 (m_size hf) rfl rfl ⟨Nat.le_of_ble_eq_true rfl, Nat.le_of_ble_eq_true rfl⟩ ⟨Nat.le_of_ble_eq_true rfl, Nat.le_of_ble_eq_true rfl⟩ rfl rfl (Nat.le_of_ble_eq_true rfl) ?_
  refine e_aload_0 dX4_matched_30 rfl ?_
  refine e_iload_2 dX4_matched_31 rfl ?_
  refine e_iconst (v := nI 1) dX4_matched_32 rfl ic_1 ?_
  refine e_callV dX4_matched_33 rfl csX4_116 (m_setOf hf (a1.mr hmr) hs (by decide) (hfk 1 (by decide))) rfl rfl ps_64 (by decide) (by decide) ⟨Nat.le_of_ble_eq_true rfl, Nat.le_of_ble_eq_true rfl⟩ ⟨Nat.le_of_ble_eq_true rfl, Nat.le_of_ble_eq_true rfl⟩ rfl rfl (Nat.le_of_ble_eq_true rfl) ?_
  refine e_topi (stC (ScF oc rg mc lo hi mb (-1) (nI 0)) (M.1 74 (3 * mo p + 1))) (hst 1 (by decide)) ?_
  refine e_callS dX4_matched_36 rfl csX4_107 (m_size hf) rfl rfl ⟨Nat.le_of_ble_eq_true rfl, Nat.le_of_ble_eq_true rfl⟩ ⟨Nat.le_of_ble_eq_true rfl, Nat.le_of_ble_eq_true rfl⟩ rfl rfl (Nat.le_of_ble_eq_true rfl) ?_
  refine e_imul dX4_matched_39 rfl ?_
  refine e_topi (nI ((szC (ScF oc rg mc lo hi mb (-1) (nI 0)) (M.1 74 (3 * mo p + 0))) * (szC (ScF oc rg mc lo hi mb (-1) (nI 0)) (M.1 74 (3 * mo p + 1))))) (pk_mul _ _) ?_
  refine e_aload_0 dX4_matched_40 rfl ?_
  refine e_iload_2 dX4_matched_41 rfl ?_
  refine e_iconst (v := nI 2) dX4_matched_42 rfl ic_2 ?_
  refine e_callV dX4_matched_43 rfl csX4_116 (m_setOf hf (a1.mr hmr) hs (by decide) (hfk 2 (by decide))) rfl rfl ps_64 (by decide) (by decide) ⟨Nat.le_of_ble_eq_true rfl, Nat.le_of_ble_eq_true rfl⟩ ⟨Nat.le_of_ble_eq_true rfl, Nat.le_of_ble_eq_true rfl⟩ rfl rfl (Nat.le_of_ble_eq_true rfl) ?_
  refine e_topi (stC (ScF oc rg mc lo hi mb (-1) (nI 0)) (M.1 74 (3 * mo p + 2))) (hst 2 (by decide)) ?_
  refine e_callS dX4_matched_46 rfl csX4_107 (m_size hf) rfl rfl ⟨Nat.le_of_ble_eq_true rfl, Nat.le_of_ble_eq_true rfl⟩ ⟨Nat.le_of_ble_eq_true rfl, Nat.le_of_ble_eq_true rfl⟩ rfl rfl (Nat.le_of_ble_eq_true rfl) ?_
  refine e_imul dX4_matched_49 rfl ?_
  refine e_topi (nI (((szC (ScF oc rg mc lo hi mb (-1) (nI 0)) (M.1 74 (3 * mo p + 0))) * (szC (ScF oc rg mc lo hi mb (-1) (nI 0)) (M.1 74 (3 * mo p + 1)))) * (szC (ScF oc rg mc lo hi mb (-1) (nI 0)) (M.1 74 (3 * mo p + 2))))) (pk_mul _ _) ?_
  exact e_iret dX4_matched_50 rfl rfl (Nat.le_of_ble_eq_true rfl) (Nat.le_of_ble_eq_true rfl) rfl rfl
theorem m_matched_nr {l : Launch} (hf : l.stackTraces = false) {M N : pmM} (hN : MS M N) {od : Nat → Nat} (hmr : M.2.1 = mrC od) {oc rc : Nat} {rg mc : Nat → Nat} {lo hi mb : Nat → Nat → Nat} {mo : Nat → Nat} (hO : MO M oc rg mc lo hi mb) (hmc : M.1 64 8 = nI rc) (h8 : rc ≤ 8) (hmo : ∀ p, p < rc → M.1 70 p = nI (mo p) ∧ mo p < 8) (hfo : OBF M mo rc oc) {x : Int32} (hn : ∀ q, q < rc → M.1 72 (mo q) ≠ x) : ∃ N', MS M N' ∧ N'.1 64 0 = nI 1 ∧ Sp l kX4_matched 86 2 0 0 [.ref 64, .int x] N (.inl (some (.int (nI 0)))) N' := by
  have hM0 := hN.cd 0
  have hrc : ∀ {P : pmM}, MS M P → P.1 64 8 = nI rc := fun h => (h.at (Or.inr ⟨rfl, by decide⟩)).trans hmc
  have hor : ∀ {P : pmM}, MS M P → ∀ p, p < rc → P.1 70 p = nI (mo p) := fun h p hp => (h.at (Or.inl (by decide))).trans (hmo p hp).1
  have hor2 : ∀ {P : pmM}, MS M P → ∀ p, p < rc → P.1 70 p = nI (mo p) ∧ mo p < 8 := fun h p hp => ⟨hor h p hp, (hmo p hp).2⟩
  have h72 : ∀ {P : pmM}, MS M P → ∀ s, P.1 72 s = M.1 72 s := fun h s => h.at (Or.inl (by decide))
  refine ⟨cdM N 1, hN.cd 1, rfl, ?_⟩
  refine sp_of hf (by decide +kernel) (Nat.le_of_ble_eq_true rfl) (by intro v hv; simp at hv; rcases hv with rfl | rfl <;> rfl) rfl ?_
  refine e_aload_0 dX4_matched_0 rfl ?_
  refine e_iload_1 dX4_matched_1 rfl ?_
  refine e_callV dX4_matched_2 rfl csX4_137 (m_slotOf_no hf (hN.mr hmr) (hrc hN) h8 (hor2 hN) (fun q hq => by rw [h72 hN]; exact hn q hq)) rfl rfl ps_64 (by decide) (by decide) ⟨Nat.le_of_ble_eq_true rfl, Nat.le_of_ble_eq_true rfl⟩ ⟨Nat.le_of_ble_eq_true rfl, Nat.le_of_ble_eq_true rfl⟩ rfl rfl (Nat.le_of_ble_eq_true rfl) ?_
  refine e_istore_2 dX4_matched_5 rfl (Nat.le_of_ble_eq_true rfl) rfl ?_
  refine e_aload_0 dX4_matched_6 rfl ?_
  refine e_getI dX4_matched_7 rfl lkX4_68 rfl ps_64 (by decide) (by decide) ?_
  refine e_topi (nI 1) rfl ?_
  refine e_if_le_f dX4_matched_10 rfl ⟨15, by decide⟩ (by decide) ?_
  refine e_iconst (v := nI 0) dX4_matched_13 rfl ic_0 ?_
  exact e_iret dX4_matched_14 rfl rfl (Nat.le_of_ble_eq_true rfl) (Nat.le_of_ble_eq_true rfl) rfl rfl
/-- what two rules have in common, by the model; n fields of it -/
def cmN (M : pmM) (S : Nat → Int32) (mo : Nat → Nat) (p q : Nat) : Nat → Nat
  | 0 => if onM M (mo q) = true then 1 else 0
  | f + 1 => cmN M S mo p q f * cntN (hasb (stC S (M.1 74 (3 * mo q + f)) &&& stC S (M.1 74 (3 * mo p + f)))) 32
def msG (M : pmM) (S : Nat → Int32) (mo : Nat → Nat) (p : Nat) : Nat → Nat × Int32
  | 0 => (0, -1)
  | q + 1 => if (msG M S mo p q).1 < cmN M S mo p q 3 then (cmN M S mo p q 3, nI q) else msG M S mo p q
theorem cmN_le (M : pmM) (S : Nat → Int32) (mo : Nat → Nat) (p q : Nat) : ∀ f, cmN M S mo p q f ≤ 32 ^ f
  | 0 => by rw [cmN]; split <;> decide
  | f + 1 => by rw [cmN, Nat.pow_succ]; exact Nat.mul_le_mul (cmN_le M S mo p q f) (cntN_le _ _)
theorem msG_le (M : pmM) (S : Nat → Int32) (mo : Nat → Nat) (p : Nat) : ∀ n, (msG M S mo p n).1 ≤ 32768
  | 0 => Nat.zero_le _
  | n + 1 => by
    rw [msG]
    split
    · exact cmN_le M S mo p n 3
    · exact msG_le M S mo p n
theorem m_mainShadow_ok {l : Launch} (hf : l.stackTraces = false) {M N : pmM} (hN : MS M N) {od : Nat → Nat} (hmr : M.2.1 = mrC od) {oc rc : Nat} {rg mc : Nat → Nat} {lo hi mb : Nat → Nat → Nat} {mo : Nat → Nat} (hO : MO M oc rg mc lo hi mb) (hmc : M.1 64 8 = nI rc) (h8 : rc ≤ 8) (hmo : ∀ p, p < rc → M.1 70 p = nI (mo p) ∧ mo p < 8) (hfo : OBF M mo rc oc) {x : Int32} {p : Nat} (hp : p < rc) (hx : M.1 72 (mo p) = x) (hn : ∀ q, q < p → M.1 72 (mo q) ≠ x) {q : Nat} (hz : (msG M (ScF oc rg mc lo hi mb (-1) (nI 0)) mo p p).2 = nI q) (hq : q < p) : ∃ N', MS M N' ∧ N'.1 64 0 = nI 0 ∧ Sp l kX4_mainShadow 86 2 0 0 [.ref 64, .int x] N (.inl (some (.int (M.1 72 (mo q))))) N' := by
  have hM0 := hN.cd 0
  have hrc : ∀ {P : pmM}, MS M P → P.1 64 8 = nI rc := fun h => (h.at (Or.inr ⟨rfl, by decide⟩)).trans hmc
  have hor : ∀ {P : pmM}, MS M P → ∀ p, p < rc → P.1 70 p = nI (mo p) := fun h p hp => (h.at (Or.inl (by decide))).trans (hmo p hp).1
  have hor2 : ∀ {P : pmM}, MS M P → ∀ p, p < rc → P.1 70 p = nI (mo p) ∧ mo p < 8 := fun h p hp => ⟨hor h p hp, (hmo p hp).2⟩
  have h72 : ∀ {P : pmM}, MS M P → ∀ s, P.1 72 s = M.1 72 s := fun h s => h.at (Or.inl (by decide))
  obtain ⟨N1, a1, a2, a4, a5, a6⟩ := m_spreads2 hf hM0 hmr hO (-1) (nI 0)
  have hst : ∀ q f, q < rc → f < 3 → stv N1 (N1.1 74 (3 * mo q + f)) = stC (ScF oc rg mc lo hi mb (-1) (nI 0)) (M.1 74 (3 * mo q + f)) := fun q f hq hf3 => by rw [a1.at (Or.inl (by decide)), stv_C a4 hO.1 (hfo q f hq hf3)]
  have hfk : ∀ q f, q < rc → f < 3 → fOk (N1.1 74 (3 * mo q + f)) := fun q f hq hf3 => by rw [a1.at (Or.inl (by decide))]; exact (hfo q f hq hf3).fOk hO.1
  refine ⟨N1, a1, a2, ?_⟩
  refine sp_of hf (by decide +kernel) (Nat.le_of_ble_eq_true rfl) (by intro v hv; simp at hv; rcases hv with rfl | rfl <;> rfl) rfl ?_
  refine e_aload_0 dX4_mainShadow_0 rfl ?_
  refine e_iconst (v := nI 0) dX4_mainShadow_1 rfl ic_0 ?_
  refine e_putI dX4_mainShadow_2 rfl lkX4_68 rfl rfl rfl ps_64 (by decide) (by decide) ?_
  refine e_aload_0 dX4_mainShadow_5 rfl ?_
  refine e_iload_1 dX4_mainShadow_6 rfl ?_
  refine e_callV dX4_mainShadow_7 rfl csX4_82 (m_positionOf_ok hf (hM0.mr hmr) (hrc hM0) h8 (hor2 hM0) hp ((h72 hM0 _).trans hx) (fun q hq => by rw [h72 hM0]; exact hn q hq)) rfl rfl ps_64 (by decide) (by decide) ⟨Nat.le_of_ble_eq_true rfl, Nat.le_of_ble_eq_true rfl⟩ ⟨Nat.le_of_ble_eq_true rfl, Nat.le_of_ble_eq_true rfl⟩ rfl rfl (Nat.le_of_ble_eq_true rfl) ?_
  refine e_istore_2 dX4_mainShadow_10 rfl (Nat.le_of_ble_eq_true rfl) rfl ?_
  refine e_iload_2 dX4_mainShadow_11 rfl ?_
  refine e_iconst (v := -1) dX4_mainShadow_12 rfl ic_m1 ?_
  refine e_ic_ne_t (tgt := 22) dX4_mainShadow_13 (by decide) (nI_m1 (by omega)) ?_
  refine e_aload_0 dX4_mainShadow_22 rfl ?_
  refine e_iconst (v := -1) dX4_mainShadow_23 rfl ic_m1 ?_
  refine e_iconst (v := nI 0) dX4_mainShadow_24 rfl ic_0 ?_
  refine e_callV dX4_mainShadow_25 rfl csX4_103 a6 rfl rfl ps_64 (by decide) (by decide) ⟨Nat.le_of_ble_eq_true rfl, Nat.le_of_ble_eq_true rfl⟩ ⟨Nat.le_of_ble_eq_true rfl, Nat.le_of_ble_eq_true rfl⟩ rfl rfl (Nat.le_of_ble_eq_true rfl) ?_
  refine e_iconst (v := nI 0) dX4_mainShadow_28 rfl ic_0 ?_
  refine e_istore_3 dX4_mainShadow_29 rfl (Nat.le_of_ble_eq_true rfl) rfl ?_
  refine e_iconst (v := -1) dX4_mainShadow_30 rfl ic_m1 ?_
  refine e_istore_4 dX4_mainShadow_31 rfl (Nat.le_of_ble_eq_true rfl) rfl ?_
  refine e_iconst (v := nI 0) dX4_mainShadow_33 rfl ic_0 ?_
  refine e_istore_5 dX4_mainShadow_34 rfl (Nat.le_of_ble_eq_true rfl) rfl ?_
  generalize hS : (ScF oc rg mc lo hi mb (-1) (nI 0)) = S at hst hz a4
  refine loop_up (P := fun i => Ev l kX4_mainShadow (gM 86 0 0 (.inl (some (.int (M.1 72 (mo q))))) N1) (rmd 2 0 0) 86 0 0 36 [some (.ref 64), some (.int x), some (.int (nI p)), some (.int (nI (msG M S mo p i).1)), some (.int (msG M S mo p i).2), some (.int (nI i)), none, none] [] N1) ?_ (fun i hi ih => ?_) 0 (Nat.zero_le p)
  · rw [hz]
    have hs := (hmo q (by omega)).2
    refine e_iload_5 dX4_mainShadow_36 rfl ?_
    refine e_iload_2 dX4_mainShadow_38 rfl ?_
    refine e_nc_ge_t (tgt := 146) dX4_mainShadow_39 (by decide) (by omega) (by omega) (Nat.le_refl _) ?_
    refine e_iload_4 dX4_mainShadow_146 rfl ?_
    refine e_iconst (v := -1) dX4_mainShadow_148 rfl ic_m1 ?_
    refine e_ic_ne_t (tgt := 160) dX4_mainShadow_149 (by decide) (nI_m1 (by omega)) ?_
    refine e_aload_0 dX4_mainShadow_160 rfl ?_
    refine e_getR dX4_mainShadow_161 rfl lkX4_32 rfl ps_64 (by decide) (by decide) (mr_of (a1.mr hmr) rfl) ?_
    refine e_aload_0 dX4_mainShadow_164 rfl ?_
    refine e_getR dX4_mainShadow_165 rfl lkX4_25 rfl ps_64 (by decide) (by decide) (mr_of (a1.mr hmr) rfl) ?_
    refine e_iload_4 dX4_mainShadow_168 rfl ?_
    refine e_iald dX4_mainShadow_170 rfl ps_70 (by decide) rfl (by omega) ?_
    refine e_topi (nI (mo q)) (hor a1 q (by omega)) ?_
    refine e_iald dX4_mainShadow_171 rfl ps_72 (by decide) rfl (by omega) ?_
    exact e_iret dX4_mainShadow_172 rfl rfl (Nat.le_of_ble_eq_true rfl) (Nat.le_of_ble_eq_true rfl) (h72 a1 _) rfl
  · have hs := (hmo i (by omega)).2
    have hsp := (hmo p hp).2
    have hle := msG_le M S mo p i
    have hcm := cmN_le M S mo p i 3
    have H : Ev l kX4_mainShadow (gM 86 0 0 (.inl (some (.int (M.1 72 (mo q))))) N1) (rmd 2 0 0) 86 0 0 66 [some (.ref 64), some (.int x), some (.int (nI p)), some (.int (nI (msG M S mo p i).1)), some (.int (msG M S mo p i).2), some (.int (nI i)), some (.int (nI (cmN M S mo p i 0))), some (.int (nI 0))] [] N1 := by
      refine loop_up (P := fun f => Ev l kX4_mainShadow (gM 86 0 0 (.inl (some (.int (M.1 72 (mo q))))) N1) (rmd 2 0 0) 86 0 0 66 [some (.ref 64), some (.int x), some (.int (nI p)), some (.int (nI (msG M S mo p i).1)), some (.int (msG M S mo p i).2), some (.int (nI i)), some (.int (nI (cmN M S mo p i f))), some (.int (nI f))] [] N1) ?_ (fun f hf3 ih2 => ?_) 0 (Nat.zero_le 3)
      · refine e_iload_7 dX4_mainShadow_66 rfl ?_
        refine e_iconst (v := nI 3) dX4_mainShadow_68 rfl ic_3 ?_
        refine e_nc_ge_t (tgt := 112) dX4_mainShadow_69 (by decide) (by omega) (by omega) (Nat.le_refl _) ?_
        by_cases hlt : (msG M S mo p i).1 < cmN M S mo p i 3
        · refine e_iload_6 dX4_mainShadow_112 rfl ?_
          refine e_iload_3 dX4_mainShadow_114 rfl ?_
          refine e_nc_le_f dX4_mainShadow_115 rfl ⟨123, by decide⟩ (by omega) (by omega) hlt ?_
          refine e_iload_5 dX4_mainShadow_118 rfl ?_
          refine e_goto (tgt := 125) dX4_mainShadow_120 (by decide) ?_
          refine e_istore_4 dX4_mainShadow_125 rfl (Nat.le_of_ble_eq_true rfl) rfl ?_
          refine e_iload_6 dX4_mainShadow_127 rfl ?_
          refine e_iload_3 dX4_mainShadow_129 rfl ?_
          refine e_nc_le_f dX4_mainShadow_130 rfl ⟨138, by decide⟩ (by omega) (by omega) hlt ?_
          refine e_iload_6 dX4_mainShadow_133 rfl ?_
          refine e_goto (tgt := 139) dX4_mainShadow_135 (by decide) ?_
          refine e_istore_3 dX4_mainShadow_139 rfl (Nat.le_of_ble_eq_true rfl) rfl ?_
          refine e_iinc_5 (v := nI (i + 1)) dX4_mainShadow_140 rfl (Nat.le_of_ble_eq_true rfl) rfl (nI_1 i) ?_
          refine e_goto (tgt := 36) dX4_mainShadow_143 (by decide) ?_
          refine e_weak (weak_c (weak_c (weak_c (weak_c (weak_c (weak_c (weak_n (weak_n weak_nil)))))))) ?_
          refine e_loc ?_ ih
          rw [msG, if_pos hlt]
        · refine e_iload_6 dX4_mainShadow_112 rfl ?_
          refine e_iload_3 dX4_mainShadow_114 rfl ?_
          refine e_nc_le_t (tgt := 123) dX4_mainShadow_115 (by decide) (by omega) (by omega) (Nat.le_of_not_lt hlt) ?_
          refine e_iload_4 dX4_mainShadow_123 rfl ?_
          refine e_istore_4 dX4_mainShadow_125 rfl (Nat.le_of_ble_eq_true rfl) rfl ?_
          refine e_iload_6 dX4_mainShadow_127 rfl ?_
          refine e_iload_3 dX4_mainShadow_129 rfl ?_
          refine e_nc_le_t (tgt := 138) dX4_mainShadow_130 (by decide) (by omega) (by omega) (Nat.le_of_not_lt hlt) ?_
          refine e_iload_3 dX4_mainShadow_138 rfl ?_
          refine e_istore_3 dX4_mainShadow_139 rfl (Nat.le_of_ble_eq_true rfl) rfl ?_
          refine e_iinc_5 (v := nI (i + 1)) dX4_mainShadow_140 rfl (Nat.le_of_ble_eq_true rfl) rfl (nI_1 i) ?_
          refine e_goto (tgt := 36) dX4_mainShadow_143 (by decide) ?_
          refine e_weak (weak_c (weak_c (weak_c (weak_c (weak_c (weak_c (weak_n (weak_n weak_nil)))))))) ?_
          refine e_loc ?_ ih
          rw [msG, if_neg hlt]
      · refine e_iload_7 dX4_mainShadow_66 rfl ?_
        refine e_iconst (v := nI 3) dX4_mainShadow_68 rfl ic_3 ?_
        refine e_nc_ge_f dX4_mainShadow_69 rfl ⟨112, by decide⟩ (by omega) (by omega) hf3 ?_
        refine e_iload_6 dX4_mainShadow_72 rfl ?_
        refine e_aload_0 dX4_mainShadow_74 rfl ?_
        refine e_aload_0 dX4_mainShadow_75 rfl ?_
        refine e_getR dX4_mainShadow_76 rfl lkX4_25 rfl ps_64 (by decide) (by decide) (mr_of (a1.mr hmr) rfl) ?_
        refine e_iload_5 dX4_mainShadow_79 rfl ?_
        refine e_iald dX4_mainShadow_81 rfl ps_70 (by decide) rfl (by omega) ?_
        refine e_topi (nI (mo i)) (hor a1 i (by omega)) ?_
        refine e_iload_7 dX4_mainShadow_82 rfl ?_
        refine e_callV dX4_mainShadow_84 rfl csX4_116 (m_setOf hf (a1.mr hmr) hs hf3 (hfk i f (by omega) hf3)) rfl rfl ps_64 (by decide) (by decide) ⟨Nat.le_of_ble_eq_true rfl, Nat.le_of_ble_eq_true rfl⟩ ⟨Nat.le_of_ble_eq_true rfl, Nat.le_of_ble_eq_true rfl⟩ rfl rfl (Nat.le_of_ble_eq_true rfl) ?_
        refine e_topi (stC S (M.1 74 (3 * mo i + f))) (hst i f (by omega) hf3) ?_
        refine e_aload_0 dX4_mainShadow_87 rfl ?_
        refine e_aload_0 dX4_mainShadow_88 rfl ?_
        refine e_getR dX4_mainShadow_89 rfl lkX4_25 rfl ps_64 (by decide) (by decide) (mr_of (a1.mr hmr) rfl) ?_
        refine e_iload_2 dX4_mainShadow_92 rfl ?_
        refine e_iald dX4_mainShadow_93 rfl ps_70 (by decide) rfl (by omega) ?_
        refine e_topi (nI (mo p)) (hor a1 p hp) ?_
        refine e_iload_7 dX4_mainShadow_94 rfl ?_
        refine e_callV dX4_mainShadow_96 rfl csX4_116 (m_setOf hf (a1.mr hmr) hsp hf3 (hfk p f hp hf3)) rfl rfl ps_64 (by decide) (by decide) ⟨Nat.le_of_ble_eq_true rfl, Nat.le_of_ble_eq_true rfl⟩ ⟨Nat.le_of_ble_eq_true rfl, Nat.le_of_ble_eq_true rfl⟩ rfl rfl (Nat.le_of_ble_eq_true rfl) ?_
        refine e_topi (stC S (M.1 74 (3 * mo p + f))) (hst p f hp hf3) ?_
        refine e_iand dX4_mainShadow_99 rfl ?_
        refine e_callS dX4_mainShadow_100 rfl csX4_107 (m_size hf) rfl rfl ⟨Nat.le_of_ble_eq_true rfl, Nat.le_of_ble_eq_true rfl⟩ ⟨Nat.le_of_ble_eq_true rfl, Nat.le_of_ble_eq_true rfl⟩ rfl rfl (Nat.le_of_ble_eq_true rfl) ?_
        refine e_imul dX4_mainShadow_103 rfl ?_
        refine e_topi (nI ((cmN M S mo p i f) * (cntN (hasb (stC S (M.1 74 (3 * mo i + f)) &&& stC S (M.1 74 (3 * mo p + f)))) 32))) (pk_mul _ _) ?_
        refine e_istore_6 dX4_mainShadow_104 rfl (Nat.le_of_ble_eq_true rfl) rfl ?_
        refine e_iinc_7 (v := nI (f + 1)) dX4_mainShadow_106 rfl (Nat.le_of_ble_eq_true rfl) rfl (nI_1 f) ?_
        refine e_goto (tgt := 66) dX4_mainShadow_109 (by decide) ?_
        exact ih2
    cases ho : onM M (mo i) with
    | true =>
      rw [cmN, ho] at H
      refine e_iload_5 dX4_mainShadow_36 rfl ?_
      refine e_iload_2 dX4_mainShadow_38 rfl ?_
      refine e_nc_ge_f dX4_mainShadow_39 rfl ⟨146, by decide⟩ (by omega) (by omega) hi ?_
      refine e_aload_0 dX4_mainShadow_42 rfl ?_
      refine e_aload_0 dX4_mainShadow_43 rfl ?_
      refine e_getR dX4_mainShadow_44 rfl lkX4_25 rfl ps_64 (by decide) (by decide) (mr_of (a1.mr hmr) rfl) ?_
      refine e_iload_5 dX4_mainShadow_47 rfl ?_
      refine e_iald dX4_mainShadow_49 rfl ps_70 (by decide) rfl (by omega) ?_
      refine e_topi (nI (mo i)) (hor a1 i (by omega)) ?_
      refine e_callV dX4_mainShadow_50 rfl csX4_113 (m_isOn hf (a1.mr hmr) hs) rfl rfl ps_64 (by decide) (by decide) ⟨Nat.le_of_ble_eq_true rfl, Nat.le_of_ble_eq_true rfl⟩ ⟨Nat.le_of_ble_eq_true rfl, Nat.le_of_ble_eq_true rfl⟩ rfl rfl (Nat.le_of_ble_eq_true rfl) ?_
      refine e_topi (bI (onM M (mo i))) (congrArg bI (onM_at a1 _)) ?_
      refine e_if_eq_f dX4_mainShadow_53 rfl ⟨60, by decide⟩ (bI1 ho) ?_
      refine e_iconst (v := nI 1) dX4_mainShadow_56 rfl ic_1 ?_
      refine e_goto (tgt := 61) dX4_mainShadow_57 (by decide) ?_
      refine e_istore_6 dX4_mainShadow_61 rfl (Nat.le_of_ble_eq_true rfl) rfl ?_
      refine e_iconst (v := nI 0) dX4_mainShadow_63 rfl ic_0 ?_
      refine e_istore_7 dX4_mainShadow_64 rfl (Nat.le_of_ble_eq_true rfl) rfl ?_
      exact H
    | false =>
      rw [cmN, ho] at H
      refine e_iload_5 dX4_mainShadow_36 rfl ?_
      refine e_iload_2 dX4_mainShadow_38 rfl ?_
      refine e_nc_ge_f dX4_mainShadow_39 rfl ⟨146, by decide⟩ (by omega) (by omega) hi ?_
      refine e_aload_0 dX4_mainShadow_42 rfl ?_
      refine e_aload_0 dX4_mainShadow_43 rfl ?_
      refine e_getR dX4_mainShadow_44 rfl lkX4_25 rfl ps_64 (by decide) (by decide) (mr_of (a1.mr hmr) rfl) ?_
      refine e_iload_5 dX4_mainShadow_47 rfl ?_
      refine e_iald dX4_mainShadow_49 rfl ps_70 (by decide) rfl (by omega) ?_
      refine e_topi (nI (mo i)) (hor a1 i (by omega)) ?_
      refine e_callV dX4_mainShadow_50 rfl csX4_113 (m_isOn hf (a1.mr hmr) hs) rfl rfl ps_64 (by decide) (by decide) ⟨Nat.le_of_ble_eq_true rfl, Nat.le_of_ble_eq_true rfl⟩ ⟨Nat.le_of_ble_eq_true rfl, Nat.le_of_ble_eq_true rfl⟩ rfl rfl (Nat.le_of_ble_eq_true rfl) ?_
      refine e_topi (bI (onM M (mo i))) (congrArg bI (onM_at a1 _)) ?_
      refine e_if_eq_t (tgt := 60) dX4_mainShadow_53 (by decide) (bI0 ho) ?_
      refine e_iconst (v := nI 0) dX4_mainShadow_60 rfl ic_0 ?_
      refine e_istore_6 dX4_mainShadow_61 rfl (Nat.le_of_ble_eq_true rfl) rfl ?_
      refine e_iconst (v := nI 0) dX4_mainShadow_63 rfl ic_0 ?_
      refine e_istore_7 dX4_mainShadow_64 rfl (Nat.le_of_ble_eq_true rfl) rfl ?_
      exact H
theorem m_mainShadow_no {l : Launch} (hf : l.stackTraces = false) {M N : pmM} (hN : MS M N) {od : Nat → Nat} (hmr : M.2.1 = mrC od) {oc rc : Nat} {rg mc : Nat → Nat} {lo hi mb : Nat → Nat → Nat} {mo : Nat → Nat} (hO : MO M oc rg mc lo hi mb) (hmc : M.1 64 8 = nI rc) (h8 : rc ≤ 8) (hmo : ∀ p, p < rc → M.1 70 p = nI (mo p) ∧ mo p < 8) (hfo : OBF M mo rc oc) {x : Int32} {p : Nat} (hp : p < rc) (hx : M.1 72 (mo p) = x) (hn : ∀ q, q < p → M.1 72 (mo q) ≠ x) (hz : (msG M (ScF oc rg mc lo hi mb (-1) (nI 0)) mo p p).2 = -1) : ∃ N', MS M N' ∧ N'.1 64 0 = nI 1 ∧ Sp l kX4_mainShadow 86 2 0 0 [.ref 64, .int x] N (.inl (some (.int (nI 0)))) N' := by
  have hM0 := hN.cd 0
  have hrc : ∀ {P : pmM}, MS M P → P.1 64 8 = nI rc := fun h => (h.at (Or.inr ⟨rfl, by decide⟩)).trans hmc
  have hor : ∀ {P : pmM}, MS M P → ∀ p, p < rc → P.1 70 p = nI (mo p) := fun h p hp => (h.at (Or.inl (by decide))).trans (hmo p hp).1
  have hor2 : ∀ {P : pmM}, MS M P → ∀ p, p < rc → P.1 70 p = nI (mo p) ∧ mo p < 8 := fun h p hp => ⟨hor h p hp, (hmo p hp).2⟩
  have h72 : ∀ {P : pmM}, MS M P → ∀ s, P.1 72 s = M.1 72 s := fun h s => h.at (Or.inl (by decide))
  obtain ⟨N1, a1, a2, a4, a5, a6⟩ := m_spreads2 hf hM0 hmr hO (-1) (nI 0)
  have hst : ∀ q f, q < rc → f < 3 → stv N1 (N1.1 74 (3 * mo q + f)) = stC (ScF oc rg mc lo hi mb (-1) (nI 0)) (M.1 74 (3 * mo q + f)) := fun q f hq hf3 => by rw [a1.at (Or.inl (by decide)), stv_C a4 hO.1 (hfo q f hq hf3)]
  have hfk : ∀ q f, q < rc → f < 3 → fOk (N1.1 74 (3 * mo q + f)) := fun q f hq hf3 => by rw [a1.at (Or.inl (by decide))]; exact (hfo q f hq hf3).fOk hO.1
  refine ⟨cdM N1 1, a1.cd 1, rfl, ?_⟩
  refine sp_of hf (by decide +kernel) (Nat.le_of_ble_eq_true rfl) (by intro v hv; simp at hv; rcases hv with rfl | rfl <;> rfl) rfl ?_
  refine e_aload_0 dX4_mainShadow_0 rfl ?_
  refine e_iconst (v := nI 0) dX4_mainShadow_1 rfl ic_0 ?_
  refine e_putI dX4_mainShadow_2 rfl lkX4_68 rfl rfl rfl ps_64 (by decide) (by decide) ?_
  refine e_aload_0 dX4_mainShadow_5 rfl ?_
  refine e_iload_1 dX4_mainShadow_6 rfl ?_
  refine e_callV dX4_mainShadow_7 rfl csX4_82 (m_positionOf_ok hf (hM0.mr hmr) (hrc hM0) h8 (hor2 hM0) hp ((h72 hM0 _).trans hx) (fun q hq => by rw [h72 hM0]; exact hn q hq)) rfl rfl ps_64 (by decide) (by decide) ⟨Nat.le_of_ble_eq_true rfl, Nat.le_of_ble_eq_true rfl⟩ ⟨Nat.le_of_ble_eq_true rfl, Nat.le_of_ble_eq_true rfl⟩ rfl rfl (Nat.le_of_ble_eq_true rfl) ?_
  refine e_istore_2 dX4_mainShadow_10 rfl (Nat.le_of_ble_eq_true rfl) rfl ?_
  refine e_iload_2 dX4_mainShadow_11 rfl ?_
  refine e_iconst (v := -1) dX4_mainShadow_12 rfl ic_m1 ?_
  refine e_ic_ne_t (tgt := 22) dX4_mainShadow_13 (by decide) (nI_m1 (by omega)) ?_
  refine e_aload_0 dX4_mainShadow_22 rfl ?_
  refine e_iconst (v := -1) dX4_mainShadow_23 rfl ic_m1 ?_
  refine e_iconst (v := nI 0) dX4_mainShadow_24 rfl ic_0 ?_
  refine e_callV dX4_mainShadow_25 rfl csX4_103 a6 rfl rfl ps_64 (by decide) (by decide) ⟨Nat.le_of_ble_eq_true rfl, Nat.le_of_ble_eq_true rfl⟩ ⟨Nat.le_of_ble_eq_true rfl, Nat.le_of_ble_eq_true rfl⟩ rfl rfl (Nat.le_of_ble_eq_true rfl) ?_
  refine e_iconst (v := nI 0) dX4_mainShadow_28 rfl ic_0 ?_
  refine e_istore_3 dX4_mainShadow_29 rfl (Nat.le_of_ble_eq_true rfl) rfl ?_
  refine e_iconst (v := -1) dX4_mainShadow_30 rfl ic_m1 ?_
  refine e_istore_4 dX4_mainShadow_31 rfl (Nat.le_of_ble_eq_true rfl) rfl ?_
  refine e_iconst (v := nI 0) dX4_mainShadow_33 rfl ic_0 ?_
  refine e_istore_5 dX4_mainShadow_34 rfl (Nat.le_of_ble_eq_true rfl) rfl ?_
  generalize hS : (ScF oc rg mc lo hi mb (-1) (nI 0)) = S at hst hz a4
  refine loop_up (P := fun i => Ev l kX4_mainShadow (gM 86 0 0 (.inl (some (.int (nI 0)))) (cdM N1 1)) (rmd 2 0 0) 86 0 0 36 [some (.ref 64), some (.int x), some (.int (nI p)), some (.int (nI (msG M S mo p i).1)), some (.int (msG M S mo p i).2), some (.int (nI i)), none, none] [] N1) ?_ (fun i hi ih => ?_) 0 (Nat.zero_le p)
  · rw [hz]
    refine e_iload_5 dX4_mainShadow_36 rfl ?_
    refine e_iload_2 dX4_mainShadow_38 rfl ?_
    refine e_nc_ge_t (tgt := 146) dX4_mainShadow_39 (by decide) (by omega) (by omega) (Nat.le_refl _) ?_
    refine e_iload_4 dX4_mainShadow_146 rfl ?_
    refine e_iconst (v := -1) dX4_mainShadow_148 rfl ic_m1 ?_
    refine e_ic_ne_f dX4_mainShadow_149 rfl ⟨160, by decide⟩ rfl ?_
    refine e_aload_0 dX4_mainShadow_152 rfl ?_
    refine e_iconst (v := nI 1) dX4_mainShadow_153 rfl ic_1 ?_
    refine e_callV dX4_mainShadow_154 rfl csX4_90 (m_fails (k := 1) hf (a1.mr hmr)) rfl rfl ps_64 (by decide) (by decide) ⟨Nat.le_of_ble_eq_true rfl, Nat.le_of_ble_eq_true rfl⟩ ⟨Nat.le_of_ble_eq_true rfl, Nat.le_of_ble_eq_true rfl⟩ rfl rfl (Nat.le_of_ble_eq_true rfl) ?_
    refine e_goto (tgt := 172) dX4_mainShadow_157 (by decide) ?_
    exact e_iret dX4_mainShadow_172 rfl rfl (Nat.le_of_ble_eq_true rfl) (Nat.le_of_ble_eq_true rfl) rfl rfl
  · have hs := (hmo i (by omega)).2
    have hsp := (hmo p hp).2
    have hle := msG_le M S mo p i
    have hcm := cmN_le M S mo p i 3
    have H : Ev l kX4_mainShadow (gM 86 0 0 (.inl (some (.int (nI 0)))) (cdM N1 1)) (rmd 2 0 0) 86 0 0 66 [some (.ref 64), some (.int x), some (.int (nI p)), some (.int (nI (msG M S mo p i).1)), some (.int (msG M S mo p i).2), some (.int (nI i)), some (.int (nI (cmN M S mo p i 0))), some (.int (nI 0))] [] N1 := by
      refine loop_up (P := fun f => Ev l kX4_mainShadow (gM 86 0 0 (.inl (some (.int (nI 0)))) (cdM N1 1)) (rmd 2 0 0) 86 0 0 66 [some (.ref 64), some (.int x), some (.int (nI p)), some (.int (nI (msG M S mo p i).1)), some (.int (msG M S mo p i).2), some (.int (nI i)), some (.int (nI (cmN M S mo p i f))), some (.int (nI f))] [] N1) ?_ (fun f hf3 ih2 => ?_) 0 (Nat.zero_le 3)
      · refine e_iload_7 dX4_mainShadow_66 rfl ?_
        refine e_iconst (v := nI 3) dX4_mainShadow_68 rfl ic_3 ?_
        refine e_nc_ge_t (tgt := 112) dX4_mainShadow_69 (by decide) (by omega) (by omega) (Nat.le_refl _) ?_
        by_cases hlt : (msG M S mo p i).1 < cmN M S mo p i 3
        · refine e_iload_6 dX4_mainShadow_112 rfl ?_
          refine e_iload_3 dX4_mainShadow_114 rfl ?_
          refine e_nc_le_f dX4_mainShadow_115 rfl ⟨123, by decide⟩ (by omega) (by omega) hlt ?_
          refine e_iload_5 dX4_mainShadow_118 rfl ?_
          refine e_goto (tgt := 125) dX4_mainShadow_120 (by decide) ?_
          refine e_istore_4 dX4_mainShadow_125 rfl (Nat.le_of_ble_eq_true rfl) rfl ?_
          refine e_iload_6 dX4_mainShadow_127 rfl ?_
          refine e_iload_3 dX4_mainShadow_129 rfl ?_
          refine e_nc_le_f dX4_mainShadow_130 rfl ⟨138, by decide⟩ (by omega) (by omega) hlt ?_
          refine e_iload_6 dX4_mainShadow_133 rfl ?_
          refine e_goto (tgt := 139) dX4_mainShadow_135 (by decide) ?_
          refine e_istore_3 dX4_mainShadow_139 rfl (Nat.le_of_ble_eq_true rfl) rfl ?_
          refine e_iinc_5 (v := nI (i + 1)) dX4_mainShadow_140 rfl (Nat.le_of_ble_eq_true rfl) rfl (nI_1 i) ?_
          refine e_goto (tgt := 36) dX4_mainShadow_143 (by decide) ?_
          refine e_weak (weak_c (weak_c (weak_c (weak_c (weak_c (weak_c (weak_n (weak_n weak_nil)))))))) ?_
          refine e_loc ?_ ih
          rw [msG, if_pos hlt]
        · refine e_iload_6 dX4_mainShadow_112 rfl ?_
          refine e_iload_3 dX4_mainShadow_114 rfl ?_
          refine e_nc_le_t (tgt := 123) dX4_mainShadow_115 (by decide) (by omega) (by omega) (Nat.le_of_not_lt hlt) ?_
          refine e_iload_4 dX4_mainShadow_123 rfl ?_
          refine e_istore_4 dX4_mainShadow_125 rfl (Nat.le_of_ble_eq_true rfl) rfl ?_
          refine e_iload_6 dX4_mainShadow_127 rfl ?_
          refine e_iload_3 dX4_mainShadow_129 rfl ?_
          refine e_nc_le_t (tgt := 138) dX4_mainShadow_130 (by decide) (by omega) (by omega) (Nat.le_of_not_lt hlt) ?_
          refine e_iload_3 dX4_mainShadow_138 rfl ?_
          refine e_istore_3 dX4_mainShadow_139 rfl (Nat.le_of_ble_eq_true rfl) rfl ?_
          refine e_iinc_5 (v := nI (i + 1)) dX4_mainShadow_140 rfl (Nat.le_of_ble_eq_true rfl) rfl (nI_1 i) ?_
          refine e_goto (tgt := 36) dX4_mainShadow_143 (by decide) ?_
          refine e_weak (weak_c (weak_c (weak_c (weak_c (weak_c (weak_c (weak_n (weak_n weak_nil)))))))) ?_
          refine e_loc ?_ ih
          rw [msG, if_neg hlt]
      · refine e_iload_7 dX4_mainShadow_66 rfl ?_
        refine e_iconst (v := nI 3) dX4_mainShadow_68 rfl ic_3 ?_
        refine e_nc_ge_f dX4_mainShadow_69 rfl ⟨112, by decide⟩ (by omega) (by omega) hf3 ?_
        refine e_iload_6 dX4_mainShadow_72 rfl ?_
        refine e_aload_0 dX4_mainShadow_74 rfl ?_
        refine e_aload_0 dX4_mainShadow_75 rfl ?_
        refine e_getR dX4_mainShadow_76 rfl lkX4_25 rfl ps_64 (by decide) (by decide) (mr_of (a1.mr hmr) rfl) ?_
        refine e_iload_5 dX4_mainShadow_79 rfl ?_
        refine e_iald dX4_mainShadow_81 rfl ps_70 (by decide) rfl (by omega) ?_
        refine e_topi (nI (mo i)) (hor a1 i (by omega)) ?_
        refine e_iload_7 dX4_mainShadow_82 rfl ?_
        refine e_callV dX4_mainShadow_84 rfl csX4_116 (m_setOf hf (a1.mr hmr) hs hf3 (hfk i f (by omega) hf3)) rfl rfl ps_64 (by decide) (by decide) ⟨Nat.le_of_ble_eq_true rfl, Nat.le_of_ble_eq_true rfl⟩ ⟨Nat.le_of_ble_eq_true rfl, Nat.le_of_ble_eq_true rfl⟩ rfl rfl (Nat.le_of_ble_eq_true rfl) ?_
        refine e_topi (stC S (M.1 74 (3 * mo i + f))) (hst i f (by omega) hf3) ?_
        refine e_aload_0 dX4_mainShadow_87 rfl ?_
        refine e_aload_0 dX4_mainShadow_88 rfl ?_
        refine e_getR dX4_mainShadow_89 rfl lkX4_25 rfl ps_64 (by decide) (by decide) (mr_of (a1.mr hmr) rfl) ?_
        refine e_iload_2 dX4_mainShadow_92 rfl ?_
        refine e_iald dX4_mainShadow_93 rfl ps_70 (by decide) rfl (by omega) ?_
        refine e_topi (nI (mo p)) (hor a1 p hp) ?_
        refine e_iload_7 dX4_mainShadow_94 rfl ?_
        refine e_callV dX4_mainShadow_96 rfl csX4_116 (m_setOf hf (a1.mr hmr) hsp hf3 (hfk p f hp hf3)) rfl rfl ps_64 (by decide) (by decide) ⟨Nat.le_of_ble_eq_true rfl, Nat.le_of_ble_eq_true rfl⟩ ⟨Nat.le_of_ble_eq_true rfl, Nat.le_of_ble_eq_true rfl⟩ rfl rfl (Nat.le_of_ble_eq_true rfl) ?_
        refine e_topi (stC S (M.1 74 (3 * mo p + f))) (hst p f hp hf3) ?_
        refine e_iand dX4_mainShadow_99 rfl ?_
        refine e_callS dX4_mainShadow_100 rfl csX4_107 (m_size hf) rfl rfl ⟨Nat.le_of_ble_eq_true rfl, Nat.le_of_ble_eq_true rfl⟩ ⟨Nat.le_of_ble_eq_true rfl, Nat.le_of_ble_eq_true rfl⟩ rfl rfl (Nat.le_of_ble_eq_true rfl) ?_
        refine e_imul dX4_mainShadow_103 rfl ?_
        refine e_topi (nI ((cmN M S mo p i f) * (cntN (hasb (stC S (M.1 74 (3 * mo i + f)) &&& stC S (M.1 74 (3 * mo p + f)))) 32))) (pk_mul _ _) ?_
        refine e_istore_6 dX4_mainShadow_104 rfl (Nat.le_of_ble_eq_true rfl) rfl ?_
        refine e_iinc_7 (v := nI (f + 1)) dX4_mainShadow_106 rfl (Nat.le_of_ble_eq_true rfl) rfl (nI_1 f) ?_
        refine e_goto (tgt := 66) dX4_mainShadow_109 (by decide) ?_
        exact ih2
    cases ho : onM M (mo i) with
    | true =>
      rw [cmN, ho] at H
      refine e_iload_5 dX4_mainShadow_36 rfl ?_
      refine e_iload_2 dX4_mainShadow_38 rfl ?_
      refine e_nc_ge_f dX4_mainShadow_39 rfl ⟨146, by decide⟩ (by omega) (by omega) hi ?_
      refine e_aload_0 dX4_mainShadow_42 rfl ?_
      refine e_aload_0 dX4_mainShadow_43 rfl ?_
      refine e_getR dX4_mainShadow_44 rfl lkX4_25 rfl ps_64 (by decide) (by decide) (mr_of (a1.mr hmr) rfl) ?_
      refine e_iload_5 dX4_mainShadow_47 rfl ?_
      refine e_iald dX4_mainShadow_49 rfl ps_70 (by decide) rfl (by omega) ?_
      refine e_topi (nI (mo i)) (hor a1 i (by omega)) ?_
      refine e_callV dX4_mainShadow_50 rfl csX4_113 (m_isOn hf (a1.mr hmr) hs) rfl rfl ps_64 (by decide) (by decide) ⟨Nat.le_of_ble_eq_true rfl, Nat.le_of_ble_eq_true rfl⟩ ⟨Nat.le_of_ble_eq_true rfl, Nat.le_of_ble_eq_true rfl⟩ rfl rfl (Nat.le_of_ble_eq_true rfl) ?_
      refine e_topi (bI (onM M (mo i))) (congrArg bI (onM_at a1 _)) ?_
      refine e_if_eq_f dX4_mainShadow_53 rfl ⟨60, by decide⟩ (bI1 ho) ?_
      refine e_iconst (v := nI 1) dX4_mainShadow_56 rfl ic_1 ?_
      refine e_goto (tgt := 61) dX4_mainShadow_57 (by decide) ?_
      refine e_istore_6 dX4_mainShadow_61 rfl (Nat.le_of_ble_eq_true rfl) rfl ?_
      refine e_iconst (v := nI 0) dX4_mainShadow_63 rfl ic_0 ?_
      refine e_istore_7 dX4_mainShadow_64 rfl (Nat.le_of_ble_eq_true rfl) rfl ?_
      exact H
    | false =>
      rw [cmN, ho] at H
      refine e_iload_5 dX4_mainShadow_36 rfl ?_
      refine e_iload_2 dX4_mainShadow_38 rfl ?_
      refine e_nc_ge_f dX4_mainShadow_39 rfl ⟨146, by decide⟩ (by omega) (by omega) hi ?_
      refine e_aload_0 dX4_mainShadow_42 rfl ?_
      refine e_aload_0 dX4_mainShadow_43 rfl ?_
      refine e_getR dX4_mainShadow_44 rfl lkX4_25 rfl ps_64 (by decide) (by decide) (mr_of (a1.mr hmr) rfl) ?_
      refine e_iload_5 dX4_mainShadow_47 rfl ?_
      refine e_iald dX4_mainShadow_49 rfl ps_70 (by decide) rfl (by omega) ?_
      refine e_topi (nI (mo i)) (hor a1 i (by omega)) ?_
      refine e_callV dX4_mainShadow_50 rfl csX4_113 (m_isOn hf (a1.mr hmr) hs) rfl rfl ps_64 (by decide) (by decide) ⟨Nat.le_of_ble_eq_true rfl, Nat.le_of_ble_eq_true rfl⟩ ⟨Nat.le_of_ble_eq_true rfl, Nat.le_of_ble_eq_true rfl⟩ rfl rfl (Nat.le_of_ble_eq_true rfl) ?_
      refine e_topi (bI (onM M (mo i))) (congrArg bI (onM_at a1 _)) ?_
      refine e_if_eq_t (tgt := 60) dX4_mainShadow_53 (by decide) (bI0 ho) ?_
      refine e_iconst (v := nI 0) dX4_mainShadow_60 rfl ic_0 ?_
      refine e_istore_6 dX4_mainShadow_61 rfl (Nat.le_of_ble_eq_true rfl) rfl ?_
      refine e_iconst (v := nI 0) dX4_mainShadow_63 rfl ic_0 ?_
      refine e_istore_7 dX4_mainShadow_64 rfl (Nat.le_of_ble_eq_true rfl) rfl ?_
      exact H
theorem m_mainShadow_nr {l : Launch} (hf : l.stackTraces = false) {M N : pmM} (hN : MS M N) {od : Nat → Nat} (hmr : M.2.1 = mrC od) {oc rc : Nat} {rg mc : Nat → Nat} {lo hi mb : Nat → Nat → Nat} {mo : Nat → Nat} (hO : MO M oc rg mc lo hi mb) (hmc : M.1 64 8 = nI rc) (h8 : rc ≤ 8) (hmo : ∀ p, p < rc → M.1 70 p = nI (mo p) ∧ mo p < 8) (hfo : OBF M mo rc oc) {x : Int32} (hn : ∀ q, q < rc → M.1 72 (mo q) ≠ x) : ∃ N', MS M N' ∧ N'.1 64 0 = nI 1 ∧ Sp l kX4_mainShadow 86 2 0 0 [.ref 64, .int x] N (.inl (some (.int (nI 0)))) N' := by
  have hM0 := hN.cd 0
  have hrc : ∀ {P : pmM}, MS M P → P.1 64 8 = nI rc := fun h => (h.at (Or.inr ⟨rfl, by decide⟩)).trans hmc
  have hor : ∀ {P : pmM}, MS M P → ∀ p, p < rc → P.1 70 p = nI (mo p) := fun h p hp => (h.at (Or.inl (by decide))).trans (hmo p hp).1
  have hor2 : ∀ {P : pmM}, MS M P → ∀ p, p < rc → P.1 70 p = nI (mo p) ∧ mo p < 8 := fun h p hp => ⟨hor h p hp, (hmo p hp).2⟩
  have h72 : ∀ {P : pmM}, MS M P → ∀ s, P.1 72 s = M.1 72 s := fun h s => h.at (Or.inl (by decide))
  refine ⟨cdM (cdM N 0) 1, hM0.cd 1, rfl, ?_⟩
  refine sp_of hf (by decide +kernel) (Nat.le_of_ble_eq_true rfl) (by intro v hv; simp at hv; rcases hv with rfl | rfl <;> rfl) rfl ?_
  refine e_aload_0 dX4_mainShadow_0 rfl ?_
  refine e_iconst (v := nI 0) dX4_mainShadow_1 rfl ic_0 ?_
  refine e_putI dX4_mainShadow_2 rfl lkX4_68 rfl rfl rfl ps_64 (by decide) (by decide) ?_
  refine e_aload_0 dX4_mainShadow_5 rfl ?_
  refine e_iload_1 dX4_mainShadow_6 rfl ?_
  refine e_callV dX4_mainShadow_7 rfl csX4_82 (m_positionOf_no hf (hM0.mr hmr) (hrc hM0) h8 (hor2 hM0) (fun q hq => by rw [h72 hM0]; exact hn q hq)) rfl rfl ps_64 (by decide) (by decide) ⟨Nat.le_of_ble_eq_true rfl, Nat.le_of_ble_eq_true rfl⟩ ⟨Nat.le_of_ble_eq_true rfl, Nat.le_of_ble_eq_true rfl⟩ rfl rfl (Nat.le_of_ble_eq_true rfl) ?_
  refine e_istore_2 dX4_mainShadow_10 rfl (Nat.le_of_ble_eq_true rfl) rfl ?_
  refine e_iload_2 dX4_mainShadow_11 rfl ?_
  refine e_iconst (v := -1) dX4_mainShadow_12 rfl ic_m1 ?_
  refine e_ic_ne_f dX4_mainShadow_13 rfl ⟨22, by decide⟩ rfl ?_
  refine e_aload_0 dX4_mainShadow_16 rfl ?_
  refine e_iconst (v := nI 1) dX4_mainShadow_17 rfl ic_1 ?_
  refine e_callV dX4_mainShadow_18 rfl csX4_90 (m_fails (k := 1) hf (hM0.mr hmr)) rfl rfl ps_64 (by decide) (by decide) ⟨Nat.le_of_ble_eq_true rfl, Nat.le_of_ble_eq_true rfl⟩ ⟨Nat.le_of_ble_eq_true rfl, Nat.le_of_ble_eq_true rfl⟩ rfl rfl (Nat.le_of_ble_eq_true rfl) ?_
  exact e_iret dX4_mainShadow_21 rfl rfl (Nat.le_of_ble_eq_true rfl) (Nat.le_of_ble_eq_true rfl) rfl rfl
theorem m_accepted {l : Launch} (hf : l.stackTraces = false) {M N : pmM} (hN : MS M N) {od : Nat → Nat} (hmr : M.2.1 = mrC od) {oc rc : Nat} {rg mc : Nat → Nat} {lo hi mb : Nat → Nat → Nat} {mo : Nat → Nat} (hO : MO M oc rg mc lo hi mb) (hmc : M.1 64 8 = nI rc) (h8 : rc ≤ 8) (hmo : ∀ p, p < rc → M.1 70 p = nI (mo p) ∧ mo p < 8) (hfo : OBF M mo rc oc)  : ∃ N', MS M N' ∧ N'.1 64 0 = nI 0 ∧ Sp l kX4_accepted 86 3 0 0 [.ref 64] N (.inl (some (.int (nI (cntN (fun x => dcB (at1 (bkC M (ScF oc rg mc lo hi mb (-1) (nI 0)) mo rc) 0 x) ((bkC M (ScF oc rg mc lo hi mb (-1) (nI 0)) mo rc) 96)) 32768))))) N' := by
  have hM0 := hN.cd 0
  have hrc : ∀ {P : pmM}, MS M P → P.1 64 8 = nI rc := fun h => (h.at (Or.inr ⟨rfl, by decide⟩)).trans hmc
  have hor : ∀ {P : pmM}, MS M P → ∀ p, p < rc → P.1 70 p = nI (mo p) := fun h p hp => (h.at (Or.inl (by decide))).trans (hmo p hp).1
  have hor2 : ∀ {P : pmM}, MS M P → ∀ p, p < rc → P.1 70 p = nI (mo p) ∧ mo p < 8 := fun h p hp => ⟨hor h p hp, (hmo p hp).2⟩
  have h72 : ∀ {P : pmM}, MS M P → ∀ s, P.1 72 s = M.1 72 s := fun h s => h.at (Or.inl (by decide))
  obtain ⟨N1, a1, a2, a3, a4, a5, a6⟩ := m_laysNow2 hf hM0 hmr hO hmc h8 hmo hfo
  refine ⟨N1, a1, a2, ?_⟩
  generalize (bkC M (ScF oc rg mc lo hi mb (-1) (nI 0)) mo rc) = bk at a3 ⊢
  refine sp_of hf (by decide +kernel) (Nat.le_of_ble_eq_true rfl) (by intro v hv; simp at hv; subst hv; rfl) rfl ?_
  refine e_aload_0 dX4_accepted_0 rfl ?_
  refine e_iconst (v := nI 0) dX4_accepted_1 rfl ic_0 ?_
  refine e_putI dX4_accepted_2 rfl lkX4_68 rfl rfl rfl ps_64 (by decide) (by decide) ?_
  refine e_aload_0 dX4_accepted_5 rfl ?_
  refine e_callV dX4_accepted_6 rfl csX4_130 a6 rfl rfl ps_64 (by decide) (by decide) ⟨Nat.le_of_ble_eq_true rfl, Nat.le_of_ble_eq_true rfl⟩ ⟨Nat.le_of_ble_eq_true rfl, Nat.le_of_ble_eq_true rfl⟩ rfl rfl (Nat.le_of_ble_eq_true rfl) ?_
  refine e_pop dX4_accepted_9 rfl rfl ?_
  refine e_iconst (v := nI 0) dX4_accepted_10 rfl ic_0 ?_
  refine e_istore_1 dX4_accepted_11 rfl (Nat.le_of_ble_eq_true rfl) rfl ?_
  refine e_iconst (v := nI 0) dX4_accepted_12 rfl ic_0 ?_
  refine e_istore_2 dX4_accepted_13 rfl (Nat.le_of_ble_eq_true rfl) rfl ?_
  refine loop_up (P := fun x => Ev l kX4_accepted (gM 86 0 0 (.inl (some (.int (nI (cntN (fun x => dcB (at1 bk 0 x) (bk 96)) 32768))))) N1) (rmd 3 0 0) 86 0 0 14 [some (.ref 64), some (.int (nI (cntN (fun x => dcB (at1 bk 0 x) (bk 96)) x))), some (.int (nI x))] [] N1) ?_ (fun x hx ih => ?_) 0 (Nat.zero_le 32768)
  · refine e_iload_2 dX4_accepted_14 rfl ?_
    refine e_ldc dX4_accepted_15 rfl kcX4_123 ?_
    refine e_topi (nI 32768) (by decide) ?_
    refine e_nc_ge_t (tgt := 87) dX4_accepted_17 (by decide) (by omega) (by omega) (Nat.le_refl _) ?_
    refine e_iload_1 dX4_accepted_87 rfl ?_
    exact e_iret dX4_accepted_88 rfl rfl (Nat.le_of_ble_eq_true rfl) (Nat.le_of_ble_eq_true rfl) rfl rfl
  · obtain ⟨ka1, ka1l⟩ := a3 (x / 1024) (by omega)
    obtain ⟨ka2, ka2l⟩ := a3 (32 + (x / 32) % 32) (by omega)
    obtain ⟨ka3, ka3l⟩ := a3 (64 + x % 32) (by omega)
    obtain ⟨kc1, kc1l⟩ := a3 (96) (by omega)
    have e1 : at1 bk 0 x = (bk (x / 1024) &&& bk (32 + (x / 32) % 32) &&& bk (64 + x % 32)) := by unfold at1; rw [show 97 * 0 + x / 1024 = x / 1024 by omega, show 97 * 0 + 32 + x / 32 % 32 = 32 + x / 32 % 32 by omega, show 97 * 0 + 64 + x % 32 = 64 + x % 32 by omega]
    have l1 : (bk (x / 1024) &&& bk (32 + (x / 32) % 32) &&& bk (64 + x % 32)) < 256 := Nat.lt_of_le_of_lt Nat.and_le_right ka3l
    cases d1 : dcB (bk (x / 1024) &&& bk (32 + (x / 32) % 32) &&& bk (64 + x % 32)) (bk 96) with
    | true =>
      refine e_iload_2 dX4_accepted_14 rfl ?_
      refine e_ldc dX4_accepted_15 rfl kcX4_123 ?_
      refine e_topi (nI 32768) (by decide) ?_
      refine e_nc_ge_f dX4_accepted_17 rfl ⟨87, by decide⟩ (by omega) (by omega) hx ?_
      refine e_iload_1 dX4_accepted_20 rfl ?_
      refine e_aload_0 dX4_accepted_21 rfl ?_
      refine e_getR dX4_accepted_22 rfl lkX4_62 rfl ps_64 (by decide) (by decide) (mr_of (a1.mr hmr) rfl) ?_
      refine e_iload_2 dX4_accepted_25 rfl ?_
      refine e_sipush (v := nI 1024) dX4_accepted_26 rfl sc_1024 ?_
      refine e_idiv dX4_accepted_29 rfl (by decide) ?_
      refine e_topi (nI (x / 1024)) (pk_div (by omega) (by decide) (by decide)) ?_
      refine e_iald dX4_accepted_30 rfl ps_82 (by decide) rfl (by omega) ?_
      refine e_topi (nI (bk (x / 1024))) ka1 ?_
      refine e_aload_0 dX4_accepted_31 rfl ?_
      refine e_getR dX4_accepted_32 rfl lkX4_62 rfl ps_64 (by decide) (by decide) (mr_of (a1.mr hmr) rfl) ?_
      refine e_bipush (v := nI 32) dX4_accepted_35 rfl bc_32 ?_
      refine e_iload_2 dX4_accepted_37 rfl ?_
      refine e_bipush (v := nI 32) dX4_accepted_38 rfl bc_32 ?_
      refine e_idiv dX4_accepted_40 rfl (by decide) ?_
      refine e_topi (nI (x / 32)) (pk_div (by omega) (by decide) (by decide)) ?_
      refine e_bipush (v := nI 32) dX4_accepted_41 rfl bc_32 ?_
      refine e_irem dX4_accepted_43 rfl (by decide) ?_
      refine e_topi (nI ((x / 32) % 32)) (pk_rem (by omega) (by decide) (by decide)) ?_
      refine e_iadd dX4_accepted_44 rfl ?_
      refine e_topi (nI (32 + (x / 32) % 32)) (nI_add _ _) ?_
      refine e_iald dX4_accepted_45 rfl ps_82 (by decide) rfl (by omega) ?_
      refine e_topi (nI (bk (32 + (x / 32) % 32))) ka2 ?_
      refine e_iand dX4_accepted_46 rfl ?_
      refine e_topi (nI (bk (x / 1024) &&& bk (32 + (x / 32) % 32))) (nI_and (by omega) (by omega)) ?_
      refine e_aload_0 dX4_accepted_47 rfl ?_
      refine e_getR dX4_accepted_48 rfl lkX4_62 rfl ps_64 (by decide) (by decide) (mr_of (a1.mr hmr) rfl) ?_
      refine e_bipush (v := nI 64) dX4_accepted_51 rfl bc_64 ?_
      refine e_iload_2 dX4_accepted_53 rfl ?_
      refine e_bipush (v := nI 32) dX4_accepted_54 rfl bc_32 ?_
      refine e_irem dX4_accepted_56 rfl (by decide) ?_
      refine e_topi (nI (x % 32)) (pk_rem (by omega) (by decide) (by decide)) ?_
      refine e_iadd dX4_accepted_57 rfl ?_
      refine e_topi (nI (64 + x % 32)) (nI_add _ _) ?_
      refine e_iald dX4_accepted_58 rfl ps_82 (by decide) rfl (by omega) ?_
      refine e_topi (nI (bk (64 + x % 32))) ka3 ?_
      refine e_iand dX4_accepted_59 rfl ?_
      refine e_topi (nI (bk (x / 1024) &&& bk (32 + (x / 32) % 32) &&& bk (64 + x % 32))) (and3 ka1l ka2l ka3l) ?_
      refine e_callS dX4_accepted_60 rfl csX4_124 (m_first hf) rfl rfl ⟨Nat.le_of_ble_eq_true rfl, Nat.le_of_ble_eq_true rfl⟩ ⟨Nat.le_of_ble_eq_true rfl, Nat.le_of_ble_eq_true rfl⟩ rfl rfl (Nat.le_of_ble_eq_true rfl) ?_
      refine e_aload_0 dX4_accepted_63 rfl ?_
      refine e_getR dX4_accepted_64 rfl lkX4_62 rfl ps_64 (by decide) (by decide) (mr_of (a1.mr hmr) rfl) ?_
      refine e_bipush (v := nI 96) dX4_accepted_67 rfl bc_96 ?_
      refine e_iald dX4_accepted_69 rfl ps_82 (by decide) rfl (by omega) ?_
      refine e_topi (nI (bk (96))) kc1 ?_
      refine e_iand dX4_accepted_70 rfl ?_
      refine e_if_eq_f dX4_accepted_71 rfl ⟨78, by decide⟩ (dcB_1 l1 kc1l d1) ?_
      refine e_iconst (v := nI 1) dX4_accepted_74 rfl ic_1 ?_
      refine e_goto (tgt := 79) dX4_accepted_75 (by decide) ?_
      refine e_iadd dX4_accepted_79 rfl ?_
      refine e_topi (nI (cntN (fun x => dcB (at1 bk 0 x) (bk 96)) x + 1)) (nI_add _ _) ?_
      refine e_istore_1 dX4_accepted_80 rfl (Nat.le_of_ble_eq_true rfl) rfl ?_
      refine e_iinc_2 (v := nI (x + 1)) dX4_accepted_81 rfl (Nat.le_of_ble_eq_true rfl) rfl (nI_1 x) ?_
      refine e_goto (tgt := 14) dX4_accepted_84 (by decide) ?_
      refine e_loc ?_ ih
      rw [cntN, e1, d1]; rfl
    | false =>
      refine e_iload_2 dX4_accepted_14 rfl ?_
      refine e_ldc dX4_accepted_15 rfl kcX4_123 ?_
      refine e_topi (nI 32768) (by decide) ?_
      refine e_nc_ge_f dX4_accepted_17 rfl ⟨87, by decide⟩ (by omega) (by omega) hx ?_
      refine e_iload_1 dX4_accepted_20 rfl ?_
      refine e_aload_0 dX4_accepted_21 rfl ?_
      refine e_getR dX4_accepted_22 rfl lkX4_62 rfl ps_64 (by decide) (by decide) (mr_of (a1.mr hmr) rfl) ?_
      refine e_iload_2 dX4_accepted_25 rfl ?_
      refine e_sipush (v := nI 1024) dX4_accepted_26 rfl sc_1024 ?_
      refine e_idiv dX4_accepted_29 rfl (by decide) ?_
      refine e_topi (nI (x / 1024)) (pk_div (by omega) (by decide) (by decide)) ?_
      refine e_iald dX4_accepted_30 rfl ps_82 (by decide) rfl (by omega) ?_
      refine e_topi (nI (bk (x / 1024))) ka1 ?_
      refine e_aload_0 dX4_accepted_31 rfl ?_
      refine e_getR dX4_accepted_32 rfl lkX4_62 rfl ps_64 (by decide) (by decide) (mr_of (a1.mr hmr) rfl) ?_
      refine e_bipush (v := nI 32) dX4_accepted_35 rfl bc_32 ?_
      refine e_iload_2 dX4_accepted_37 rfl ?_
      refine e_bipush (v := nI 32) dX4_accepted_38 rfl bc_32 ?_
      refine e_idiv dX4_accepted_40 rfl (by decide) ?_
      refine e_topi (nI (x / 32)) (pk_div (by omega) (by decide) (by decide)) ?_
      refine e_bipush (v := nI 32) dX4_accepted_41 rfl bc_32 ?_
      refine e_irem dX4_accepted_43 rfl (by decide) ?_
      refine e_topi (nI ((x / 32) % 32)) (pk_rem (by omega) (by decide) (by decide)) ?_
      refine e_iadd dX4_accepted_44 rfl ?_
      refine e_topi (nI (32 + (x / 32) % 32)) (nI_add _ _) ?_
      refine e_iald dX4_accepted_45 rfl ps_82 (by decide) rfl (by omega) ?_
      refine e_topi (nI (bk (32 + (x / 32) % 32))) ka2 ?_
      refine e_iand dX4_accepted_46 rfl ?_
      refine e_topi (nI (bk (x / 1024) &&& bk (32 + (x / 32) % 32))) (nI_and (by omega) (by omega)) ?_
      refine e_aload_0 dX4_accepted_47 rfl ?_
      refine e_getR dX4_accepted_48 rfl lkX4_62 rfl ps_64 (by decide) (by decide) (mr_of (a1.mr hmr) rfl) ?_
      refine e_bipush (v := nI 64) dX4_accepted_51 rfl bc_64 ?_
      refine e_iload_2 dX4_accepted_53 rfl ?_
      refine e_bipush (v := nI 32) dX4_accepted_54 rfl bc_32 ?_
      refine e_irem dX4_accepted_56 rfl (by decide) ?_
      refine e_topi (nI (x % 32)) (pk_rem (by omega) (by decide) (by decide)) ?_
      refine e_iadd dX4_accepted_57 rfl ?_
      refine e_topi (nI (64 + x % 32)) (nI_add _ _) ?_
      refine e_iald dX4_accepted_58 rfl ps_82 (by decide) rfl (by omega) ?_
      refine e_topi (nI (bk (64 + x % 32))) ka3 ?_
      refine e_iand dX4_accepted_59 rfl ?_
      refine e_topi (nI (bk (x / 1024) &&& bk (32 + (x / 32) % 32) &&& bk (64 + x % 32))) (and3 ka1l ka2l ka3l) ?_
      refine e_callS dX4_accepted_60 rfl csX4_124 (m_first hf) rfl rfl ⟨Nat.le_of_ble_eq_true rfl, Nat.le_of_ble_eq_true rfl⟩ ⟨Nat.le_of_ble_eq_true rfl, Nat.le_of_ble_eq_true rfl⟩ rfl rfl (Nat.le_of_ble_eq_true rfl) ?_
      refine e_aload_0 dX4_accepted_63 rfl ?_
      refine e_getR dX4_accepted_64 rfl lkX4_62 rfl ps_64 (by decide) (by decide) (mr_of (a1.mr hmr) rfl) ?_
      refine e_bipush (v := nI 96) dX4_accepted_67 rfl bc_96 ?_
      refine e_iald dX4_accepted_69 rfl ps_82 (by decide) rfl (by omega) ?_
      refine e_topi (nI (bk (96))) kc1 ?_
      refine e_iand dX4_accepted_70 rfl ?_
      refine e_if_eq_t (tgt := 78) dX4_accepted_71 (by decide) (dcB_0 l1 kc1l d1) ?_
      refine e_iconst (v := nI 0) dX4_accepted_78 rfl ic_0 ?_
      refine e_iadd dX4_accepted_79 rfl ?_
      refine e_topi (nI (cntN (fun x => dcB (at1 bk 0 x) (bk 96)) x + 0)) (nI_add _ _) ?_
      refine e_istore_1 dX4_accepted_80 rfl (Nat.le_of_ble_eq_true rfl) rfl ?_
      refine e_iinc_2 (v := nI (x + 1)) dX4_accepted_81 rfl (Nat.le_of_ble_eq_true rfl) rfl (nI_1 x) ?_
      refine e_goto (tgt := 14) dX4_accepted_84 (by decide) ?_
      refine e_loc ?_ ih
      rw [cntN, e1, d1]; rfl
theorem m_changedByMove_ok {l : Launch} (hf : l.stackTraces = false) {M N : pmM} (hN : MS M N) {od : Nat → Nat} (hmr : M.2.1 = mrC od) {oc rc : Nat} {rg mc : Nat → Nat} {lo hi mb : Nat → Nat → Nat} {mo : Nat → Nat} (hO : MO M oc rg mc lo hi mb) (hmc : M.1 64 8 = nI rc) (h8 : rc ≤ 8) (hmo : ∀ p, p < rc → M.1 70 p = nI (mo p) ∧ mo p < 8) (hfo : OBF M mo rc oc) {x : Int32} {p : Nat} (hp : p < rc) (hx : M.1 72 (mo p) = x) (hn : ∀ q, q < p → M.1 72 (mo q) ≠ x) {q : Nat} (hq : q < rc) : ∃ N', MS M N' ∧ N'.1 64 0 = nI 0 ∧ Sp l kX4_changedByMove 86 4 0 0 [.ref 64, .int x, .int (nI q)] N (.inl (some (.int (nI (ulN (bkC M (ScF oc rg mc lo hi mb (-1) (nI 0)) mo rc) (bkC M (ScF oc rg mc lo hi mb (-1) (nI 0)) (shO mo p q) rc)))))) N' := by
  have hM0 := hN.cd 0
  have hrc : ∀ {P : pmM}, MS M P → P.1 64 8 = nI rc := fun h => (h.at (Or.inr ⟨rfl, by decide⟩)).trans hmc
  have hor : ∀ {P : pmM}, MS M P → ∀ p, p < rc → P.1 70 p = nI (mo p) := fun h p hp => (h.at (Or.inl (by decide))).trans (hmo p hp).1
  have hor2 : ∀ {P : pmM}, MS M P → ∀ p, p < rc → P.1 70 p = nI (mo p) ∧ mo p < 8 := fun h p hp => ⟨hor h p hp, (hmo p hp).2⟩
  have h72 : ∀ {P : pmM}, MS M P → ∀ s, P.1 72 s = M.1 72 s := fun h s => h.at (Or.inl (by decide))
  obtain ⟨N1, a1, a2, a3, a4⟩ := m_byMove hf hM0 hmr hO hmc h8 hmo hfo hp hq
  refine ⟨N1, a1, a2, ?_⟩
  refine sp_of hf (by decide +kernel) (Nat.le_of_ble_eq_true rfl) (by intro v hv; simp at hv; rcases hv with rfl | rfl | rfl <;> rfl) rfl ?_
  refine e_aload_0 dX4_changedByMove_0 rfl ?_
  refine e_iconst (v := nI 0) dX4_changedByMove_1 rfl ic_0 ?_
  refine e_putI dX4_changedByMove_2 rfl lkX4_68 rfl rfl rfl ps_64 (by decide) (by decide) ?_
  refine e_aload_0 dX4_changedByMove_5 rfl ?_
  refine e_iload_1 dX4_changedByMove_6 rfl ?_
  refine e_callV dX4_changedByMove_7 rfl csX4_82 (m_positionOf_ok hf (hM0.mr hmr) (hrc hM0) h8 (hor2 hM0) hp ((h72 hM0 _).trans hx) (fun q hq => by rw [h72 hM0]; exact hn q hq)) rfl rfl ps_64 (by decide) (by decide) ⟨Nat.le_of_ble_eq_true rfl, Nat.le_of_ble_eq_true rfl⟩ ⟨Nat.le_of_ble_eq_true rfl, Nat.le_of_ble_eq_true rfl⟩ rfl rfl (Nat.le_of_ble_eq_true rfl) ?_
  refine e_istore_3 dX4_changedByMove_10 rfl (Nat.le_of_ble_eq_true rfl) rfl ?_
  refine e_iload_3 dX4_changedByMove_11 rfl ?_
  refine e_iconst (v := -1) dX4_changedByMove_12 rfl ic_m1 ?_
  refine e_ic_ne_t (tgt := 22) dX4_changedByMove_13 (by decide) (nI_m1 (by omega)) ?_
  refine e_iload_2 dX4_changedByMove_22 rfl ?_
  refine e_iconst (v := nI 0) dX4_changedByMove_23 rfl ic_0 ?_
  refine e_aload_0 dX4_changedByMove_24 rfl ?_
  refine e_getI dX4_changedByMove_25 rfl lkX4_79 rfl ps_64 (by decide) (by decide) ?_
  refine e_topi (nI rc) (hrc hM0) ?_
  refine e_iconst (v := nI 1) dX4_changedByMove_28 rfl ic_1 ?_
  refine e_isub dX4_changedByMove_29 rfl ?_
  refine e_topi (nI (rc - 1)) (pk_sub (by omega)) ?_
  refine e_callS dX4_changedByMove_30 rfl csX4_75 (m_in_t hf (nI_le (Nat.zero_le q) (by omega)) (nI_le (show q ≤ rc - 1 by omega) (by omega))) rfl rfl ⟨Nat.le_of_ble_eq_true rfl, Nat.le_of_ble_eq_true rfl⟩ ⟨Nat.le_of_ble_eq_true rfl, Nat.le_of_ble_eq_true rfl⟩ rfl rfl (Nat.le_of_ble_eq_true rfl) ?_
  refine e_if_eq_f dX4_changedByMove_33 rfl ⟨45, by decide⟩ (by decide) ?_
  refine e_aload_0 dX4_changedByMove_36 rfl ?_
  refine e_iload_3 dX4_changedByMove_37 rfl ?_
  refine e_iload_2 dX4_changedByMove_38 rfl ?_
  refine e_callV dX4_changedByMove_39 rfl csX4_152 a4 rfl rfl ps_64 (by decide) (by decide) ⟨Nat.le_of_ble_eq_true rfl, Nat.le_of_ble_eq_true rfl⟩ ⟨Nat.le_of_ble_eq_true rfl, Nat.le_of_ble_eq_true rfl⟩ rfl rfl (Nat.le_of_ble_eq_true rfl) ?_
  refine e_goto (tgt := 50) dX4_changedByMove_42 (by decide) ?_
  exact e_iret dX4_changedByMove_50 rfl rfl (Nat.le_of_ble_eq_true rfl) (Nat.le_of_ble_eq_true rfl) rfl rfl
theorem m_changedByMove_no2 {l : Launch} (hf : l.stackTraces = false) {M N : pmM} (hN : MS M N) {od : Nat → Nat} (hmr : M.2.1 = mrC od) {oc rc : Nat} {rg mc : Nat → Nat} {lo hi mb : Nat → Nat → Nat} {mo : Nat → Nat} (hO : MO M oc rg mc lo hi mb) (hmc : M.1 64 8 = nI rc) (h8 : rc ≤ 8) (hmo : ∀ p, p < rc → M.1 70 p = nI (mo p) ∧ mo p < 8) (hfo : OBF M mo rc oc) {x : Int32} {p : Nat} (hp : p < rc) (hx : M.1 72 (mo p) = x) (hn : ∀ q, q < p → M.1 72 (mo q) ≠ x) {y : Int32} (hy : ¬ vp_in y rc) : ∃ N', MS M N' ∧ N'.1 64 0 = nI 2 ∧ Sp l kX4_changedByMove 86 4 0 0 [.ref 64, .int x, .int y] N (.inl (some (.int (nI 0)))) N' := by
  have hM0 := hN.cd 0
  have hrc : ∀ {P : pmM}, MS M P → P.1 64 8 = nI rc := fun h => (h.at (Or.inr ⟨rfl, by decide⟩)).trans hmc
  have hor : ∀ {P : pmM}, MS M P → ∀ p, p < rc → P.1 70 p = nI (mo p) := fun h p hp => (h.at (Or.inl (by decide))).trans (hmo p hp).1
  have hor2 : ∀ {P : pmM}, MS M P → ∀ p, p < rc → P.1 70 p = nI (mo p) ∧ mo p < 8 := fun h p hp => ⟨hor h p hp, (hmo p hp).2⟩
  have h72 : ∀ {P : pmM}, MS M P → ∀ s, P.1 72 s = M.1 72 s := fun h s => h.at (Or.inl (by decide))
  refine ⟨cdM (cdM N 0) 2, hM0.cd 2, rfl, ?_⟩
  refine sp_of hf (by decide +kernel) (Nat.le_of_ble_eq_true rfl) (by intro v hv; simp at hv; rcases hv with rfl | rfl | rfl <;> rfl) rfl ?_
  refine e_aload_0 dX4_changedByMove_0 rfl ?_
  refine e_iconst (v := nI 0) dX4_changedByMove_1 rfl ic_0 ?_
  refine e_putI dX4_changedByMove_2 rfl lkX4_68 rfl rfl rfl ps_64 (by decide) (by decide) ?_
  refine e_aload_0 dX4_changedByMove_5 rfl ?_
  refine e_iload_1 dX4_changedByMove_6 rfl ?_
  refine e_callV dX4_changedByMove_7 rfl csX4_82 (m_positionOf_ok hf (hM0.mr hmr) (hrc hM0) h8 (hor2 hM0) hp ((h72 hM0 _).trans hx) (fun q hq => by rw [h72 hM0]; exact hn q hq)) rfl rfl ps_64 (by decide) (by decide) ⟨Nat.le_of_ble_eq_true rfl, Nat.le_of_ble_eq_true rfl⟩ ⟨Nat.le_of_ble_eq_true rfl, Nat.le_of_ble_eq_true rfl⟩ rfl rfl (Nat.le_of_ble_eq_true rfl) ?_
  refine e_istore_3 dX4_changedByMove_10 rfl (Nat.le_of_ble_eq_true rfl) rfl ?_
  refine e_iload_3 dX4_changedByMove_11 rfl ?_
  refine e_iconst (v := -1) dX4_changedByMove_12 rfl ic_m1 ?_
  refine e_ic_ne_t (tgt := 22) dX4_changedByMove_13 (by decide) (nI_m1 (by omega)) ?_
  refine e_iload_2 dX4_changedByMove_22 rfl ?_
  refine e_iconst (v := nI 0) dX4_changedByMove_23 rfl ic_0 ?_
  refine e_aload_0 dX4_changedByMove_24 rfl ?_
  refine e_getI dX4_changedByMove_25 rfl lkX4_79 rfl ps_64 (by decide) (by decide) ?_
  refine e_topi (nI rc) (hrc hM0) ?_
  refine e_iconst (v := nI 1) dX4_changedByMove_28 rfl ic_1 ?_
  refine e_isub dX4_changedByMove_29 rfl ?_
  refine e_callS dX4_changedByMove_30 rfl csX4_75 (m_in_f hf (inE_n hy (by omega))) rfl rfl ⟨Nat.le_of_ble_eq_true rfl, Nat.le_of_ble_eq_true rfl⟩ ⟨Nat.le_of_ble_eq_true rfl, Nat.le_of_ble_eq_true rfl⟩ rfl rfl (Nat.le_of_ble_eq_true rfl) ?_
  refine e_if_eq_t (tgt := 45) dX4_changedByMove_33 (by decide) (by decide) ?_
  refine e_aload_0 dX4_changedByMove_45 rfl ?_
  refine e_iconst (v := nI 2) dX4_changedByMove_46 rfl ic_2 ?_
  refine e_callV dX4_changedByMove_47 rfl csX4_90 (m_fails (k := 2) hf (hM0.mr hmr)) rfl rfl ps_64 (by decide) (by decide) ⟨Nat.le_of_ble_eq_true rfl, Nat.le_of_ble_eq_true rfl⟩ ⟨Nat.le_of_ble_eq_true rfl, Nat.le_of_ble_eq_true rfl⟩ rfl rfl (Nat.le_of_ble_eq_true rfl) ?_
  exact e_iret dX4_changedByMove_50 rfl rfl (Nat.le_of_ble_eq_true rfl) (Nat.le_of_ble_eq_true rfl) rfl rfl
theorem m_changedByMove_nr {l : Launch} (hf : l.stackTraces = false) {M N : pmM} (hN : MS M N) {od : Nat → Nat} (hmr : M.2.1 = mrC od) {oc rc : Nat} {rg mc : Nat → Nat} {lo hi mb : Nat → Nat → Nat} {mo : Nat → Nat} (hO : MO M oc rg mc lo hi mb) (hmc : M.1 64 8 = nI rc) (h8 : rc ≤ 8) (hmo : ∀ p, p < rc → M.1 70 p = nI (mo p) ∧ mo p < 8) (hfo : OBF M mo rc oc) {x : Int32} (hn : ∀ q, q < rc → M.1 72 (mo q) ≠ x) {y : Int32} : ∃ N', MS M N' ∧ N'.1 64 0 = nI 1 ∧ Sp l kX4_changedByMove 86 4 0 0 [.ref 64, .int x, .int y] N (.inl (some (.int (nI 0)))) N' := by
  have hM0 := hN.cd 0
  have hrc : ∀ {P : pmM}, MS M P → P.1 64 8 = nI rc := fun h => (h.at (Or.inr ⟨rfl, by decide⟩)).trans hmc
  have hor : ∀ {P : pmM}, MS M P → ∀ p, p < rc → P.1 70 p = nI (mo p) := fun h p hp => (h.at (Or.inl (by decide))).trans (hmo p hp).1
  have hor2 : ∀ {P : pmM}, MS M P → ∀ p, p < rc → P.1 70 p = nI (mo p) ∧ mo p < 8 := fun h p hp => ⟨hor h p hp, (hmo p hp).2⟩
  have h72 : ∀ {P : pmM}, MS M P → ∀ s, P.1 72 s = M.1 72 s := fun h s => h.at (Or.inl (by decide))
  refine ⟨cdM (cdM N 0) 1, hM0.cd 1, rfl, ?_⟩
  refine sp_of hf (by decide +kernel) (Nat.le_of_ble_eq_true rfl) (by intro v hv; simp at hv; rcases hv with rfl | rfl | rfl <;> rfl) rfl ?_
  refine e_aload_0 dX4_changedByMove_0 rfl ?_
  refine e_iconst (v := nI 0) dX4_changedByMove_1 rfl ic_0 ?_
  refine e_putI dX4_changedByMove_2 rfl lkX4_68 rfl rfl rfl ps_64 (by decide) (by decide) ?_
  refine e_aload_0 dX4_changedByMove_5 rfl ?_
  refine e_iload_1 dX4_changedByMove_6 rfl ?_
  refine e_callV dX4_changedByMove_7 rfl csX4_82 (m_positionOf_no hf (hM0.mr hmr) (hrc hM0) h8 (hor2 hM0) (fun q hq => by rw [h72 hM0]; exact hn q hq)) rfl rfl ps_64 (by decide) (by decide) ⟨Nat.le_of_ble_eq_true rfl, Nat.le_of_ble_eq_true rfl⟩ ⟨Nat.le_of_ble_eq_true rfl, Nat.le_of_ble_eq_true rfl⟩ rfl rfl (Nat.le_of_ble_eq_true rfl) ?_
  refine e_istore_3 dX4_changedByMove_10 rfl (Nat.le_of_ble_eq_true rfl) rfl ?_
  refine e_iload_3 dX4_changedByMove_11 rfl ?_
  refine e_iconst (v := -1) dX4_changedByMove_12 rfl ic_m1 ?_
  refine e_ic_ne_f dX4_changedByMove_13 rfl ⟨22, by decide⟩ rfl ?_
  refine e_aload_0 dX4_changedByMove_16 rfl ?_
  refine e_iconst (v := nI 1) dX4_changedByMove_17 rfl ic_1 ?_
  refine e_callV dX4_changedByMove_18 rfl csX4_90 (m_fails (k := 1) hf (hM0.mr hmr)) rfl rfl ps_64 (by decide) (by decide) ⟨Nat.le_of_ble_eq_true rfl, Nat.le_of_ble_eq_true rfl⟩ ⟨Nat.le_of_ble_eq_true rfl, Nat.le_of_ble_eq_true rfl⟩ rfl rfl (Nat.le_of_ble_eq_true rfl) ?_
  exact e_iret dX4_changedByMove_21 rfl rfl (Nat.le_of_ble_eq_true rfl) (Nat.le_of_ble_eq_true rfl) rfl rfl
def orM (M : pmM) (mo : Nat → Nat) (n : Nat) : pmM := (fun a k => if a = 70 ∧ k < n then nI (mo k) else M.1 a k, M.2)
theorem tak_or {M N : pmM} {mo : Nat → Nat} {n : Nat} (h : MS M N) (h2 : ∀ k, k < n → N.1 83 k = nI (mo k)) : MS (orM M mo n) (takM N n) := ⟨h.1, fun a j q => by
  show (if a = 70 ∧ j < n then N.1 83 j else N.1 a j) = if a = 70 ∧ j < n then nI (mo j) else M.1 a j
  by_cases e : a = 70 ∧ j < n
  · rw [if_pos e, if_pos e, h2 j e.2]
  · rw [if_neg e, if_neg e, h.2 a j q]⟩
theorem m_move_ok {l : Launch} (hf : l.stackTraces = false) {M N : pmM} (hN : MS M N) {od : Nat → Nat} (hmr : M.2.1 = mrC od) {oc rc : Nat} {rg mc : Nat → Nat} {lo hi mb : Nat → Nat → Nat} {mo : Nat → Nat} (hO : MO M oc rg mc lo hi mb) (hmc : M.1 64 8 = nI rc) (h8 : rc ≤ 8) (hmo : ∀ p, p < rc → M.1 70 p = nI (mo p) ∧ mo p < 8) (hfo : OBF M mo rc oc) {x : Int32} {p : Nat} (hp : p < rc) (hx : M.1 72 (mo p) = x) (hn : ∀ q, q < p → M.1 72 (mo q) ≠ x) {q : Nat} (hq : q < rc) (hz : (ulN (bkC M (ScF oc rg mc lo hi mb (-1) (nI 0)) mo rc) (bkC M (ScF oc rg mc lo hi mb (-1) (nI 0)) (shO mo p q) rc)) = 0) : ∃ N', MS (orM M (shO mo p q) rc) N' ∧ N'.1 64 0 = nI 0 ∧ Sp l kX4_move 86 4 0 0 [.ref 64, .int x, .int (nI q)] N (.inl (some (.int (nI p)))) N' := by
  have hM0 := hN.cd 0
  have hrc : ∀ {P : pmM}, MS M P → P.1 64 8 = nI rc := fun h => (h.at (Or.inr ⟨rfl, by decide⟩)).trans hmc
  have hor : ∀ {P : pmM}, MS M P → ∀ p, p < rc → P.1 70 p = nI (mo p) := fun h p hp => (h.at (Or.inl (by decide))).trans (hmo p hp).1
  have hor2 : ∀ {P : pmM}, MS M P → ∀ p, p < rc → P.1 70 p = nI (mo p) ∧ mo p < 8 := fun h p hp => ⟨hor h p hp, (hmo p hp).2⟩
  have h72 : ∀ {P : pmM}, MS M P → ∀ s, P.1 72 s = M.1 72 s := fun h s => h.at (Or.inl (by decide))
  obtain ⟨N1, a1, a2, a3, a4⟩ := m_byMove hf hM0 hmr hO hmc h8 hmo hfo hp hq
  refine ⟨takM N1 rc, tak_or a1 a3, a2, ?_⟩
  refine sp_of hf (by decide +kernel) (Nat.le_of_ble_eq_true rfl) (by intro v hv; simp at hv; rcases hv with rfl | rfl | rfl <;> rfl) rfl ?_
  refine e_aload_0 dX4_move_0 rfl ?_
  refine e_iconst (v := nI 0) dX4_move_1 rfl ic_0 ?_
  refine e_putI dX4_move_2 rfl lkX4_68 rfl rfl rfl ps_64 (by decide) (by decide) ?_
  refine e_aload_0 dX4_move_5 rfl ?_
  refine e_iload_1 dX4_move_6 rfl ?_
  refine e_callV dX4_move_7 rfl csX4_82 (m_positionOf_ok hf (hM0.mr hmr) (hrc hM0) h8 (hor2 hM0) hp ((h72 hM0 _).trans hx) (fun q hq => by rw [h72 hM0]; exact hn q hq)) rfl rfl ps_64 (by decide) (by decide) ⟨Nat.le_of_ble_eq_true rfl, Nat.le_of_ble_eq_true rfl⟩ ⟨Nat.le_of_ble_eq_true rfl, Nat.le_of_ble_eq_true rfl⟩ rfl rfl (Nat.le_of_ble_eq_true rfl) ?_
  refine e_istore_3 dX4_move_10 rfl (Nat.le_of_ble_eq_true rfl) rfl ?_
  refine e_iload_3 dX4_move_11 rfl ?_
  refine e_iconst (v := -1) dX4_move_12 rfl ic_m1 ?_
  refine e_ic_ne_t (tgt := 22) dX4_move_13 (by decide) (nI_m1 (by omega)) ?_
  refine e_iload_2 dX4_move_22 rfl ?_
  refine e_iconst (v := nI 0) dX4_move_23 rfl ic_0 ?_
  refine e_aload_0 dX4_move_24 rfl ?_
  refine e_getI dX4_move_25 rfl lkX4_79 rfl ps_64 (by decide) (by decide) ?_
  refine e_topi (nI rc) (hrc hM0) ?_
  refine e_iconst (v := nI 1) dX4_move_28 rfl ic_1 ?_
  refine e_isub dX4_move_29 rfl ?_
  refine e_topi (nI (rc - 1)) (pk_sub (by omega)) ?_
  refine e_callS dX4_move_30 rfl csX4_75 (m_in_t hf (nI_le (Nat.zero_le q) (by omega)) (nI_le (show q ≤ rc - 1 by omega) (by omega))) rfl rfl ⟨Nat.le_of_ble_eq_true rfl, Nat.le_of_ble_eq_true rfl⟩ ⟨Nat.le_of_ble_eq_true rfl, Nat.le_of_ble_eq_true rfl⟩ rfl rfl (Nat.le_of_ble_eq_true rfl) ?_
  refine e_if_ne_t (tgt := 42) dX4_move_33 (by decide) (by decide) ?_
  refine e_aload_0 dX4_move_42 rfl ?_
  refine e_iload_3 dX4_move_43 rfl ?_
  refine e_iload_2 dX4_move_44 rfl ?_
  refine e_callV dX4_move_45 rfl csX4_152 a4 rfl rfl ps_64 (by decide) (by decide) ⟨Nat.le_of_ble_eq_true rfl, Nat.le_of_ble_eq_true rfl⟩ ⟨Nat.le_of_ble_eq_true rfl, Nat.le_of_ble_eq_true rfl⟩ rfl rfl (Nat.le_of_ble_eq_true rfl) ?_
  refine e_if_le_t (tgt := 57) dX4_move_48 (by decide) (by rw [show cntN (ulB (bk2 (bkC M (ScF oc rg mc lo hi mb (-1) (nI 0)) mo rc) (bkC M (ScF oc rg mc lo hi mb (-1) (nI 0)) (shO mo p q) rc))) 32768 = 0 from hz]; decide) ?_
  refine e_aload_0 dX4_move_57 rfl ?_
  refine e_callV dX4_move_58 rfl csX4_155 (m_takes hf (a1.mr hmr) (hrc a1) h8) rfl rfl ps_64 (by decide) (by decide) ⟨Nat.le_of_ble_eq_true rfl, Nat.le_of_ble_eq_true rfl⟩ ⟨Nat.le_of_ble_eq_true rfl, Nat.le_of_ble_eq_true rfl⟩ rfl rfl (Nat.le_of_ble_eq_true rfl) ?_
  refine e_iload_3 dX4_move_61 rfl ?_
  exact e_iret dX4_move_62 rfl rfl (Nat.le_of_ble_eq_true rfl) (Nat.le_of_ble_eq_true rfl) rfl rfl
theorem m_move_no3 {l : Launch} (hf : l.stackTraces = false) {M N : pmM} (hN : MS M N) {od : Nat → Nat} (hmr : M.2.1 = mrC od) {oc rc : Nat} {rg mc : Nat → Nat} {lo hi mb : Nat → Nat → Nat} {mo : Nat → Nat} (hO : MO M oc rg mc lo hi mb) (hmc : M.1 64 8 = nI rc) (h8 : rc ≤ 8) (hmo : ∀ p, p < rc → M.1 70 p = nI (mo p) ∧ mo p < 8) (hfo : OBF M mo rc oc) {x : Int32} {p : Nat} (hp : p < rc) (hx : M.1 72 (mo p) = x) (hn : ∀ q, q < p → M.1 72 (mo q) ≠ x) {q : Nat} (hq : q < rc) (hz : ¬ (ulN (bkC M (ScF oc rg mc lo hi mb (-1) (nI 0)) mo rc) (bkC M (ScF oc rg mc lo hi mb (-1) (nI 0)) (shO mo p q) rc)) = 0) : ∃ N', MS M N' ∧ N'.1 64 0 = nI 3 ∧ Sp l kX4_move 86 4 0 0 [.ref 64, .int x, .int (nI q)] N (.inl (some (.int (nI 0)))) N' := by
  have hM0 := hN.cd 0
  have hrc : ∀ {P : pmM}, MS M P → P.1 64 8 = nI rc := fun h => (h.at (Or.inr ⟨rfl, by decide⟩)).trans hmc
  have hor : ∀ {P : pmM}, MS M P → ∀ p, p < rc → P.1 70 p = nI (mo p) := fun h p hp => (h.at (Or.inl (by decide))).trans (hmo p hp).1
  have hor2 : ∀ {P : pmM}, MS M P → ∀ p, p < rc → P.1 70 p = nI (mo p) ∧ mo p < 8 := fun h p hp => ⟨hor h p hp, (hmo p hp).2⟩
  have h72 : ∀ {P : pmM}, MS M P → ∀ s, P.1 72 s = M.1 72 s := fun h s => h.at (Or.inl (by decide))
  obtain ⟨N1, a1, a2, a3, a4⟩ := m_byMove hf hM0 hmr hO hmc h8 hmo hfo hp hq
  have hl : (ulN (bkC M (ScF oc rg mc lo hi mb (-1) (nI 0)) mo rc) (bkC M (ScF oc rg mc lo hi mb (-1) (nI 0)) (shO mo p q) rc)) ≤ 32768 := cntN_le _ _
  refine ⟨cdM N1 3, a1.cd 3, rfl, ?_⟩
  refine sp_of hf (by decide +kernel) (Nat.le_of_ble_eq_true rfl) (by intro v hv; simp at hv; rcases hv with rfl | rfl | rfl <;> rfl) rfl ?_
  refine e_aload_0 dX4_move_0 rfl ?_
  refine e_iconst (v := nI 0) dX4_move_1 rfl ic_0 ?_
  refine e_putI dX4_move_2 rfl lkX4_68 rfl rfl rfl ps_64 (by decide) (by decide) ?_
  refine e_aload_0 dX4_move_5 rfl ?_
  refine e_iload_1 dX4_move_6 rfl ?_
  refine e_callV dX4_move_7 rfl csX4_82 (m_positionOf_ok hf (hM0.mr hmr) (hrc hM0) h8 (hor2 hM0) hp ((h72 hM0 _).trans hx) (fun q hq => by rw [h72 hM0]; exact hn q hq)) rfl rfl ps_64 (by decide) (by decide) ⟨Nat.le_of_ble_eq_true rfl, Nat.le_of_ble_eq_true rfl⟩ ⟨Nat.le_of_ble_eq_true rfl, Nat.le_of_ble_eq_true rfl⟩ rfl rfl (Nat.le_of_ble_eq_true rfl) ?_
  refine e_istore_3 dX4_move_10 rfl (Nat.le_of_ble_eq_true rfl) rfl ?_
  refine e_iload_3 dX4_move_11 rfl ?_
  refine e_iconst (v := -1) dX4_move_12 rfl ic_m1 ?_
  refine e_ic_ne_t (tgt := 22) dX4_move_13 (by decide) (nI_m1 (by omega)) ?_
  refine e_iload_2 dX4_move_22 rfl ?_
  refine e_iconst (v := nI 0) dX4_move_23 rfl ic_0 ?_
  refine e_aload_0 dX4_move_24 rfl ?_
  refine e_getI dX4_move_25 rfl lkX4_79 rfl ps_64 (by decide) (by decide) ?_
  refine e_topi (nI rc) (hrc hM0) ?_
  refine e_iconst (v := nI 1) dX4_move_28 rfl ic_1 ?_
  refine e_isub dX4_move_29 rfl ?_
  refine e_topi (nI (rc - 1)) (pk_sub (by omega)) ?_
  refine e_callS dX4_move_30 rfl csX4_75 (m_in_t hf (nI_le (Nat.zero_le q) (by omega)) (nI_le (show q ≤ rc - 1 by omega) (by omega))) rfl rfl ⟨Nat.le_of_ble_eq_true rfl, Nat.le_of_ble_eq_true rfl⟩ ⟨Nat.le_of_ble_eq_true rfl, Nat.le_of_ble_eq_true rfl⟩ rfl rfl (Nat.le_of_ble_eq_true rfl) ?_
  refine e_if_ne_t (tgt := 42) dX4_move_33 (by decide) (by decide) ?_
  refine e_aload_0 dX4_move_42 rfl ?_
  refine e_iload_3 dX4_move_43 rfl ?_
  refine e_iload_2 dX4_move_44 rfl ?_
  refine e_callV dX4_move_45 rfl csX4_152 a4 rfl rfl ps_64 (by decide) (by decide) ⟨Nat.le_of_ble_eq_true rfl, Nat.le_of_ble_eq_true rfl⟩ ⟨Nat.le_of_ble_eq_true rfl, Nat.le_of_ble_eq_true rfl⟩ rfl rfl (Nat.le_of_ble_eq_true rfl) ?_
  refine e_if_le_f dX4_move_48 rfl ⟨57, by decide⟩ (fun z => by have := (nI_leI (a := (ulN (bkC M (ScF oc rg mc lo hi mb (-1) (nI 0)) mo rc) (bkC M (ScF oc rg mc lo hi mb (-1) (nI 0)) (shO mo p q) rc))) (b := 0) (by omega) (by decide)).mp z; omega) ?_
  refine e_aload_0 dX4_move_51 rfl ?_
  refine e_iconst (v := nI 3) dX4_move_52 rfl ic_3 ?_
  refine e_callV dX4_move_53 rfl csX4_90 (m_fails (k := 3) hf (a1.mr hmr)) rfl rfl ps_64 (by decide) (by decide) ⟨Nat.le_of_ble_eq_true rfl, Nat.le_of_ble_eq_true rfl⟩ ⟨Nat.le_of_ble_eq_true rfl, Nat.le_of_ble_eq_true rfl⟩ rfl rfl (Nat.le_of_ble_eq_true rfl) ?_
  exact e_iret dX4_move_56 rfl rfl (Nat.le_of_ble_eq_true rfl) (Nat.le_of_ble_eq_true rfl) rfl rfl
theorem m_move_no2 {l : Launch} (hf : l.stackTraces = false) {M N : pmM} (hN : MS M N) {od : Nat → Nat} (hmr : M.2.1 = mrC od) {oc rc : Nat} {rg mc : Nat → Nat} {lo hi mb : Nat → Nat → Nat} {mo : Nat → Nat} (hO : MO M oc rg mc lo hi mb) (hmc : M.1 64 8 = nI rc) (h8 : rc ≤ 8) (hmo : ∀ p, p < rc → M.1 70 p = nI (mo p) ∧ mo p < 8) (hfo : OBF M mo rc oc) {x : Int32} {p : Nat} (hp : p < rc) (hx : M.1 72 (mo p) = x) (hn : ∀ q, q < p → M.1 72 (mo q) ≠ x) {y : Int32} (hy : ¬ vp_in y rc) : ∃ N', MS M N' ∧ N'.1 64 0 = nI 2 ∧ Sp l kX4_move 86 4 0 0 [.ref 64, .int x, .int y] N (.inl (some (.int (nI 0)))) N' := by
  have hM0 := hN.cd 0
  have hrc : ∀ {P : pmM}, MS M P → P.1 64 8 = nI rc := fun h => (h.at (Or.inr ⟨rfl, by decide⟩)).trans hmc
  have hor : ∀ {P : pmM}, MS M P → ∀ p, p < rc → P.1 70 p = nI (mo p) := fun h p hp => (h.at (Or.inl (by decide))).trans (hmo p hp).1
  have hor2 : ∀ {P : pmM}, MS M P → ∀ p, p < rc → P.1 70 p = nI (mo p) ∧ mo p < 8 := fun h p hp => ⟨hor h p hp, (hmo p hp).2⟩
  have h72 : ∀ {P : pmM}, MS M P → ∀ s, P.1 72 s = M.1 72 s := fun h s => h.at (Or.inl (by decide))
  refine ⟨cdM (cdM N 0) 2, hM0.cd 2, rfl, ?_⟩
  refine sp_of hf (by decide +kernel) (Nat.le_of_ble_eq_true rfl) (by intro v hv; simp at hv; rcases hv with rfl | rfl | rfl <;> rfl) rfl ?_
  refine e_aload_0 dX4_move_0 rfl ?_
  refine e_iconst (v := nI 0) dX4_move_1 rfl ic_0 ?_
  refine e_putI dX4_move_2 rfl lkX4_68 rfl rfl rfl ps_64 (by decide) (by decide) ?_
  refine e_aload_0 dX4_move_5 rfl ?_
  refine e_iload_1 dX4_move_6 rfl ?_
  refine e_callV dX4_move_7 rfl csX4_82 (m_positionOf_ok hf (hM0.mr hmr) (hrc hM0) h8 (hor2 hM0) hp ((h72 hM0 _).trans hx) (fun q hq => by rw [h72 hM0]; exact hn q hq)) rfl rfl ps_64 (by decide) (by decide) ⟨Nat.le_of_ble_eq_true rfl, Nat.le_of_ble_eq_true rfl⟩ ⟨Nat.le_of_ble_eq_true rfl, Nat.le_of_ble_eq_true rfl⟩ rfl rfl (Nat.le_of_ble_eq_true rfl) ?_
  refine e_istore_3 dX4_move_10 rfl (Nat.le_of_ble_eq_true rfl) rfl ?_
  refine e_iload_3 dX4_move_11 rfl ?_
  refine e_iconst (v := -1) dX4_move_12 rfl ic_m1 ?_
  refine e_ic_ne_t (tgt := 22) dX4_move_13 (by decide) (nI_m1 (by omega)) ?_
  refine e_iload_2 dX4_move_22 rfl ?_
  refine e_iconst (v := nI 0) dX4_move_23 rfl ic_0 ?_
  refine e_aload_0 dX4_move_24 rfl ?_
  refine e_getI dX4_move_25 rfl lkX4_79 rfl ps_64 (by decide) (by decide) ?_
  refine e_topi (nI rc) (hrc hM0) ?_
  refine e_iconst (v := nI 1) dX4_move_28 rfl ic_1 ?_
  refine e_isub dX4_move_29 rfl ?_
  refine e_callS dX4_move_30 rfl csX4_75 (m_in_f hf (inE_n hy (by omega))) rfl rfl ⟨Nat.le_of_ble_eq_true rfl, Nat.le_of_ble_eq_true rfl⟩ ⟨Nat.le_of_ble_eq_true rfl, Nat.le_of_ble_eq_true rfl⟩ rfl rfl (Nat.le_of_ble_eq_true rfl) ?_
  refine e_if_ne_f dX4_move_33 rfl ⟨42, by decide⟩ (by decide) ?_
  refine e_aload_0 dX4_move_36 rfl ?_
  refine e_iconst (v := nI 2) dX4_move_37 rfl ic_2 ?_
  refine e_callV dX4_move_38 rfl csX4_90 (m_fails (k := 2) hf (hM0.mr hmr)) rfl rfl ps_64 (by decide) (by decide) ⟨Nat.le_of_ble_eq_true rfl, Nat.le_of_ble_eq_true rfl⟩ ⟨Nat.le_of_ble_eq_true rfl, Nat.le_of_ble_eq_true rfl⟩ rfl rfl (Nat.le_of_ble_eq_true rfl) ?_
  exact e_iret dX4_move_41 rfl rfl (Nat.le_of_ble_eq_true rfl) (Nat.le_of_ble_eq_true rfl) rfl rfl
theorem m_move_nr {l : Launch} (hf : l.stackTraces = false) {M N : pmM} (hN : MS M N) {od : Nat → Nat} (hmr : M.2.1 = mrC od) {oc rc : Nat} {rg mc : Nat → Nat} {lo hi mb : Nat → Nat → Nat} {mo : Nat → Nat} (hO : MO M oc rg mc lo hi mb) (hmc : M.1 64 8 = nI rc) (h8 : rc ≤ 8) (hmo : ∀ p, p < rc → M.1 70 p = nI (mo p) ∧ mo p < 8) (hfo : OBF M mo rc oc) {x : Int32} (hn : ∀ q, q < rc → M.1 72 (mo q) ≠ x) {y : Int32} : ∃ N', MS M N' ∧ N'.1 64 0 = nI 1 ∧ Sp l kX4_move 86 4 0 0 [.ref 64, .int x, .int y] N (.inl (some (.int (nI 0)))) N' := by
  have hM0 := hN.cd 0
  have hrc : ∀ {P : pmM}, MS M P → P.1 64 8 = nI rc := fun h => (h.at (Or.inr ⟨rfl, by decide⟩)).trans hmc
  have hor : ∀ {P : pmM}, MS M P → ∀ p, p < rc → P.1 70 p = nI (mo p) := fun h p hp => (h.at (Or.inl (by decide))).trans (hmo p hp).1
  have hor2 : ∀ {P : pmM}, MS M P → ∀ p, p < rc → P.1 70 p = nI (mo p) ∧ mo p < 8 := fun h p hp => ⟨hor h p hp, (hmo p hp).2⟩
  have h72 : ∀ {P : pmM}, MS M P → ∀ s, P.1 72 s = M.1 72 s := fun h s => h.at (Or.inl (by decide))
  refine ⟨cdM (cdM N 0) 1, hM0.cd 1, rfl, ?_⟩
  refine sp_of hf (by decide +kernel) (Nat.le_of_ble_eq_true rfl) (by intro v hv; simp at hv; rcases hv with rfl | rfl | rfl <;> rfl) rfl ?_
  refine e_aload_0 dX4_move_0 rfl ?_
  refine e_iconst (v := nI 0) dX4_move_1 rfl ic_0 ?_
  refine e_putI dX4_move_2 rfl lkX4_68 rfl rfl rfl ps_64 (by decide) (by decide) ?_
  refine e_aload_0 dX4_move_5 rfl ?_
  refine e_iload_1 dX4_move_6 rfl ?_
  refine e_callV dX4_move_7 rfl csX4_82 (m_positionOf_no hf (hM0.mr hmr) (hrc hM0) h8 (hor2 hM0) (fun q hq => by rw [h72 hM0]; exact hn q hq)) rfl rfl ps_64 (by decide) (by decide) ⟨Nat.le_of_ble_eq_true rfl, Nat.le_of_ble_eq_true rfl⟩ ⟨Nat.le_of_ble_eq_true rfl, Nat.le_of_ble_eq_true rfl⟩ rfl rfl (Nat.le_of_ble_eq_true rfl) ?_
  refine e_istore_3 dX4_move_10 rfl (Nat.le_of_ble_eq_true rfl) rfl ?_
  refine e_iload_3 dX4_move_11 rfl ?_
  refine e_iconst (v := -1) dX4_move_12 rfl ic_m1 ?_
  refine e_ic_ne_f dX4_move_13 rfl ⟨22, by decide⟩ rfl ?_
  refine e_aload_0 dX4_move_16 rfl ?_
  refine e_iconst (v := nI 1) dX4_move_17 rfl ic_1 ?_
  refine e_callV dX4_move_18 rfl csX4_90 (m_fails (k := 1) hf (hM0.mr hmr)) rfl rfl ps_64 (by decide) (by decide) ⟨Nat.le_of_ble_eq_true rfl, Nat.le_of_ble_eq_true rfl⟩ ⟨Nat.le_of_ble_eq_true rfl, Nat.le_of_ble_eq_true rfl⟩ rfl rfl (Nat.le_of_ble_eq_true rfl) ?_
  exact e_iret dX4_move_21 rfl rfl (Nat.le_of_ble_eq_true rfl) (Nat.le_of_ble_eq_true rfl) rfl rfl
theorem m_changedByRange_ok {l : Launch} (hf : l.stackTraces = false) {M N : pmM} (hN : MS M N) {od : Nat → Nat} (hmr : M.2.1 = mrC od) {oc rc : Nat} {rg mc : Nat → Nat} {lo hi mb : Nat → Nat → Nat} {mo : Nat → Nat} (hO : MO M oc rg mc lo hi mb) (hmc : M.1 64 8 = nI rc) (h8 : rc ≤ 8) (hmo : ∀ p, p < rc → M.1 70 p = nI (mo p) ∧ mo p < 8) (hfo : OBF M mo rc oc) {o : Nat} (ho : o < oc) {a b : Nat} (hab : a ≤ b) (hb : b < 32) : ∃ N', MS M N' ∧ N'.1 64 0 = nI 0 ∧ Sp l kX4_changedByRange 86 3 0 0 [.ref 64, .int (nI o), .int (nI a), .int (nI b)] N (.inl (some (.int (nI (ulN (bkC M (ScF oc rg mc lo hi mb (-1) (nI 0)) mo rc) (bkC M (ScF oc rg mc lo hi mb (nI o) (rgO a b)) mo rc)))))) N' := by
  have hM0 := hN.cd 0
  have hrc : ∀ {P : pmM}, MS M P → P.1 64 8 = nI rc := fun h => (h.at (Or.inr ⟨rfl, by decide⟩)).trans hmc
  have hor : ∀ {P : pmM}, MS M P → ∀ p, p < rc → P.1 70 p = nI (mo p) := fun h p hp => (h.at (Or.inl (by decide))).trans (hmo p hp).1
  have hor2 : ∀ {P : pmM}, MS M P → ∀ p, p < rc → P.1 70 p = nI (mo p) ∧ mo p < 8 := fun h p hp => ⟨hor h p hp, (hmo p hp).2⟩
  have h72 : ∀ {P : pmM}, MS M P → ∀ s, P.1 72 s = M.1 72 s := fun h s => h.at (Or.inl (by decide))
  obtain ⟨N1, a1, a2, a3, a4, a5, a6⟩ := m_laysNow2 hf hM0 hmr hO hmc h8 hmo hfo
  obtain ⟨N2, b1, b2, b4, b5, b6⟩ := m_spreads2 hf a1 hmr hO (nI o) (rgO a b)
  obtain ⟨N3, c1, c2, c3, c4, c5, c6⟩ := m_lays2 (mo := mo) (n := rc) (b := 1) (ln := 70) (S := (ScF oc rg mc lo hi mb (nI o) (rgO a b))) hf b1 hmr ps_70 (by decide) (by decide) h8 (by decide) (hor2 b1) hO.1 b4 hfo
  have hbk := bk2_of (N' := N3) (N := N1) a3 c3 (bkC_lt _ _ _ h8) (fun k hk => (c4 k hk).trans (b5 82 k (by decide)))
  refine ⟨N3, c1, c2.trans (b2.trans a2), ?_⟩
  refine sp_of hf (by decide +kernel) (Nat.le_of_ble_eq_true rfl) (by intro v hv; simp at hv; rcases hv with rfl | rfl | rfl | rfl <;> rfl) rfl ?_
  refine e_aload_0 dX4_changedByRange_0 rfl ?_
  refine e_iconst (v := nI 0) dX4_changedByRange_1 rfl ic_0 ?_
  refine e_putI dX4_changedByRange_2 rfl lkX4_68 rfl rfl rfl ps_64 (by decide) (by decide) ?_
  refine e_aload_0 dX4_changedByRange_5 rfl ?_
  refine e_iload_1 dX4_changedByRange_6 rfl ?_
  refine e_callV dX4_changedByRange_7 rfl csX4_93 (m_isObject_y hf (hM0.MO hO).2.1 hO.1 ho) rfl rfl ps_64 (by decide) (by decide) ⟨Nat.le_of_ble_eq_true rfl, Nat.le_of_ble_eq_true rfl⟩ ⟨Nat.le_of_ble_eq_true rfl, Nat.le_of_ble_eq_true rfl⟩ rfl rfl (Nat.le_of_ble_eq_true rfl) ?_
  refine e_if_ne_t (tgt := 19) dX4_changedByRange_10 (by decide) (by decide) ?_
  refine e_iload_2 dX4_changedByRange_19 rfl ?_
  refine e_iconst (v := nI 0) dX4_changedByRange_20 rfl ic_0 ?_
  refine e_bipush (v := nI 31) dX4_changedByRange_21 rfl bc_31 ?_
  refine e_callS dX4_changedByRange_23 rfl csX4_75 (m_in_t hf (nI_le (Nat.zero_le a) (by omega)) (nI_le (show a ≤ 31 by omega) (by omega))) rfl rfl ⟨Nat.le_of_ble_eq_true rfl, Nat.le_of_ble_eq_true rfl⟩ ⟨Nat.le_of_ble_eq_true rfl, Nat.le_of_ble_eq_true rfl⟩ rfl rfl (Nat.le_of_ble_eq_true rfl) ?_
  refine e_if_eq_f dX4_changedByRange_26 rfl ⟨39, by decide⟩ (by decide) ?_
  refine e_iload_3 dX4_changedByRange_29 rfl ?_
  refine e_iload_2 dX4_changedByRange_30 rfl ?_
  refine e_bipush (v := nI 31) dX4_changedByRange_31 rfl bc_31 ?_
  refine e_callS dX4_changedByRange_33 rfl csX4_75 (m_in_t hf (nI_le hab (by omega)) (nI_le (show b ≤ 31 by omega) (by omega))) rfl rfl ⟨Nat.le_of_ble_eq_true rfl, Nat.le_of_ble_eq_true rfl⟩ ⟨Nat.le_of_ble_eq_true rfl, Nat.le_of_ble_eq_true rfl⟩ rfl rfl (Nat.le_of_ble_eq_true rfl) ?_
  refine e_if_ne_t (tgt := 45) dX4_changedByRange_36 (by decide) (by decide) ?_
  refine e_aload_0 dX4_changedByRange_45 rfl ?_
  refine e_callV dX4_changedByRange_46 rfl csX4_130 a6 rfl rfl ps_64 (by decide) (by decide) ⟨Nat.le_of_ble_eq_true rfl, Nat.le_of_ble_eq_true rfl⟩ ⟨Nat.le_of_ble_eq_true rfl, Nat.le_of_ble_eq_true rfl⟩ rfl rfl (Nat.le_of_ble_eq_true rfl) ?_
  refine e_pop dX4_changedByRange_49 rfl rfl ?_
  refine e_aload_0 dX4_changedByRange_50 rfl ?_
  refine e_iload_1 dX4_changedByRange_51 rfl ?_
  refine e_iload_2 dX4_changedByRange_52 rfl ?_
  refine e_iload_3 dX4_changedByRange_53 rfl ?_
  refine e_callS dX4_changedByRange_54 rfl csX4_86 (m_span hf hab hb) rfl rfl ⟨Nat.le_of_ble_eq_true rfl, Nat.le_of_ble_eq_true rfl⟩ ⟨Nat.le_of_ble_eq_true rfl, Nat.le_of_ble_eq_true rfl⟩ rfl rfl (Nat.le_of_ble_eq_true rfl) ?_
  refine e_callV dX4_changedByRange_57 rfl csX4_103 b6 rfl rfl ps_64 (by decide) (by decide) ⟨Nat.le_of_ble_eq_true rfl, Nat.le_of_ble_eq_true rfl⟩ ⟨Nat.le_of_ble_eq_true rfl, Nat.le_of_ble_eq_true rfl⟩ rfl rfl (Nat.le_of_ble_eq_true rfl) ?_
  refine e_aload_0 dX4_changedByRange_60 rfl ?_
  refine e_iconst (v := nI 1) dX4_changedByRange_61 rfl ic_1 ?_
  refine e_aload_0 dX4_changedByRange_62 rfl ?_
  refine e_getR dX4_changedByRange_63 rfl lkX4_25 rfl ps_64 (by decide) (by decide) (mr_of (b1.mr hmr) rfl) ?_
  refine e_aload_0 dX4_changedByRange_66 rfl ?_
  refine e_getI dX4_changedByRange_67 rfl lkX4_79 rfl ps_64 (by decide) (by decide) ?_
  refine e_topi (nI rc) (hrc b1) ?_
  refine e_callV dX4_changedByRange_70 rfl csX4_119 c6 rfl rfl ps_64 (by decide) (by decide) ⟨Nat.le_of_ble_eq_true rfl, Nat.le_of_ble_eq_true rfl⟩ ⟨Nat.le_of_ble_eq_true rfl, Nat.le_of_ble_eq_true rfl⟩ rfl rfl (Nat.le_of_ble_eq_true rfl) ?_
  refine e_aload_0 dX4_changedByRange_73 rfl ?_
  refine e_callV dX4_changedByRange_74 rfl csX4_134 (m_unlike hf (c1.mr hmr) hbk) rfl rfl ps_64 (by decide) (by decide) ⟨Nat.le_of_ble_eq_true rfl, Nat.le_of_ble_eq_true rfl⟩ ⟨Nat.le_of_ble_eq_true rfl, Nat.le_of_ble_eq_true rfl⟩ rfl rfl (Nat.le_of_ble_eq_true rfl) ?_
  exact e_iret dX4_changedByRange_77 rfl rfl (Nat.le_of_ble_eq_true rfl) (Nat.le_of_ble_eq_true rfl) rfl rfl
theorem m_changedByRange_no1 {l : Launch} (hf : l.stackTraces = false) {M N : pmM} (hN : MS M N) {od : Nat → Nat} (hmr : M.2.1 = mrC od) {oc rc : Nat} {rg mc : Nat → Nat} {lo hi mb : Nat → Nat → Nat} {mo : Nat → Nat} (hO : MO M oc rg mc lo hi mb) (hmc : M.1 64 8 = nI rc) (h8 : rc ≤ 8) (hmo : ∀ p, p < rc → M.1 70 p = nI (mo p) ∧ mo p < 8) (hfo : OBF M mo rc oc) {x : Int32} (hx : ¬ vp_in x oc) {y z : Int32} : ∃ N', MS M N' ∧ N'.1 64 0 = nI 1 ∧ Sp l kX4_changedByRange 86 3 0 0 [.ref 64, .int x, .int y, .int z] N (.inl (some (.int (nI 0)))) N' := by
  have hM0 := hN.cd 0
  have hrc : ∀ {P : pmM}, MS M P → P.1 64 8 = nI rc := fun h => (h.at (Or.inr ⟨rfl, by decide⟩)).trans hmc
  have hor : ∀ {P : pmM}, MS M P → ∀ p, p < rc → P.1 70 p = nI (mo p) := fun h p hp => (h.at (Or.inl (by decide))).trans (hmo p hp).1
  have hor2 : ∀ {P : pmM}, MS M P → ∀ p, p < rc → P.1 70 p = nI (mo p) ∧ mo p < 8 := fun h p hp => ⟨hor h p hp, (hmo p hp).2⟩
  have h72 : ∀ {P : pmM}, MS M P → ∀ s, P.1 72 s = M.1 72 s := fun h s => h.at (Or.inl (by decide))
  refine ⟨cdM (cdM N 0) 1, hM0.cd 1, rfl, ?_⟩
  refine sp_of hf (by decide +kernel) (Nat.le_of_ble_eq_true rfl) (by intro v hv; simp at hv; rcases hv with rfl | rfl | rfl | rfl <;> rfl) rfl ?_
  refine e_aload_0 dX4_changedByRange_0 rfl ?_
  refine e_iconst (v := nI 0) dX4_changedByRange_1 rfl ic_0 ?_
  refine e_putI dX4_changedByRange_2 rfl lkX4_68 rfl rfl rfl ps_64 (by decide) (by decide) ?_
  refine e_aload_0 dX4_changedByRange_5 rfl ?_
  refine e_iload_1 dX4_changedByRange_6 rfl ?_
  refine e_callV dX4_changedByRange_7 rfl csX4_93 (m_isObject_n hf (hM0.MO hO).2.1 hO.1 hx) rfl rfl ps_64 (by decide) (by decide) ⟨Nat.le_of_ble_eq_true rfl, Nat.le_of_ble_eq_true rfl⟩ ⟨Nat.le_of_ble_eq_true rfl, Nat.le_of_ble_eq_true rfl⟩ rfl rfl (Nat.le_of_ble_eq_true rfl) ?_
  refine e_if_ne_f dX4_changedByRange_10 rfl ⟨19, by decide⟩ (by decide) ?_
  refine e_aload_0 dX4_changedByRange_13 rfl ?_
  refine e_iconst (v := nI 1) dX4_changedByRange_14 rfl ic_1 ?_
  refine e_callV dX4_changedByRange_15 rfl csX4_90 (m_fails (k := 1) hf (hM0.mr hmr)) rfl rfl ps_64 (by decide) (by decide) ⟨Nat.le_of_ble_eq_true rfl, Nat.le_of_ble_eq_true rfl⟩ ⟨Nat.le_of_ble_eq_true rfl, Nat.le_of_ble_eq_true rfl⟩ rfl rfl (Nat.le_of_ble_eq_true rfl) ?_
  exact e_iret dX4_changedByRange_18 rfl rfl (Nat.le_of_ble_eq_true rfl) (Nat.le_of_ble_eq_true rfl) rfl rfl
theorem m_changedByRange_no2 {l : Launch} (hf : l.stackTraces = false) {M N : pmM} (hN : MS M N) {od : Nat → Nat} (hmr : M.2.1 = mrC od) {oc rc : Nat} {rg mc : Nat → Nat} {lo hi mb : Nat → Nat → Nat} {mo : Nat → Nat} (hO : MO M oc rg mc lo hi mb) (hmc : M.1 64 8 = nI rc) (h8 : rc ≤ 8) (hmo : ∀ p, p < rc → M.1 70 p = nI (mo p) ∧ mo p < 8) (hfo : OBF M mo rc oc) {o : Nat} (ho : o < oc) {x y : Int32} (hx : ∀ a b : Nat, a ≤ b → b < 32 → ¬ (x = nI a ∧ y = nI b)) : ∃ N', MS M N' ∧ N'.1 64 0 = nI 2 ∧ Sp l kX4_changedByRange 86 3 0 0 [.ref 64, .int (nI o), .int x, .int y] N (.inl (some (.int (nI 0)))) N' := by
  have hM0 := hN.cd 0
  have hrc : ∀ {P : pmM}, MS M P → P.1 64 8 = nI rc := fun h => (h.at (Or.inr ⟨rfl, by decide⟩)).trans hmc
  have hor : ∀ {P : pmM}, MS M P → ∀ p, p < rc → P.1 70 p = nI (mo p) := fun h p hp => (h.at (Or.inl (by decide))).trans (hmo p hp).1
  have hor2 : ∀ {P : pmM}, MS M P → ∀ p, p < rc → P.1 70 p = nI (mo p) ∧ mo p < 8 := fun h p hp => ⟨hor h p hp, (hmo p hp).2⟩
  have h72 : ∀ {P : pmM}, MS M P → ∀ s, P.1 72 s = M.1 72 s := fun h s => h.at (Or.inl (by decide))
  refine ⟨cdM (cdM N 0) 2, hM0.cd 2, rfl, ?_⟩
  refine sp_of hf (by decide +kernel) (Nat.le_of_ble_eq_true rfl) (by intro v hv; simp at hv; rcases hv with rfl | rfl | rfl | rfl <;> rfl) rfl ?_
  by_cases q : vp_in x 32
  · obtain ⟨a, ha, rfl⟩ := vp_in_of q (by decide)
    refine e_aload_0 dX4_changedByRange_0 rfl ?_
    refine e_iconst (v := nI 0) dX4_changedByRange_1 rfl ic_0 ?_
    refine e_putI dX4_changedByRange_2 rfl lkX4_68 rfl rfl rfl ps_64 (by decide) (by decide) ?_
    refine e_aload_0 dX4_changedByRange_5 rfl ?_
    refine e_iload_1 dX4_changedByRange_6 rfl ?_
    refine e_callV dX4_changedByRange_7 rfl csX4_93 (m_isObject_y hf (hM0.MO hO).2.1 hO.1 ho) rfl rfl ps_64 (by decide) (by decide) ⟨Nat.le_of_ble_eq_true rfl, Nat.le_of_ble_eq_true rfl⟩ ⟨Nat.le_of_ble_eq_true rfl, Nat.le_of_ble_eq_true rfl⟩ rfl rfl (Nat.le_of_ble_eq_true rfl) ?_
    refine e_if_ne_t (tgt := 19) dX4_changedByRange_10 (by decide) (by decide) ?_
    refine e_iload_2 dX4_changedByRange_19 rfl ?_
    refine e_iconst (v := nI 0) dX4_changedByRange_20 rfl ic_0 ?_
    refine e_bipush (v := nI 31) dX4_changedByRange_21 rfl bc_31 ?_
    refine e_callS dX4_changedByRange_23 rfl csX4_75 (m_in_t hf (nI_le (Nat.zero_le a) (by omega)) (nI_le (show a ≤ 31 by omega) (by omega))) rfl rfl ⟨Nat.le_of_ble_eq_true rfl, Nat.le_of_ble_eq_true rfl⟩ ⟨Nat.le_of_ble_eq_true rfl, Nat.le_of_ble_eq_true rfl⟩ rfl rfl (Nat.le_of_ble_eq_true rfl) ?_
    refine e_if_eq_f dX4_changedByRange_26 rfl ⟨39, by decide⟩ (by decide) ?_
    refine e_iload_3 dX4_changedByRange_29 rfl ?_
    refine e_iload_2 dX4_changedByRange_30 rfl ?_
    refine e_bipush (v := nI 31) dX4_changedByRange_31 rfl bc_31 ?_
    refine e_callS dX4_changedByRange_33 rfl csX4_75 (m_in_f hf (in31_n ha (fun b g1 g2 g3 => hx a b g1 g2 ⟨rfl, g3⟩))) rfl rfl ⟨Nat.le_of_ble_eq_true rfl, Nat.le_of_ble_eq_true rfl⟩ ⟨Nat.le_of_ble_eq_true rfl, Nat.le_of_ble_eq_true rfl⟩ rfl rfl (Nat.le_of_ble_eq_true rfl) ?_
    refine e_if_ne_f dX4_changedByRange_36 rfl ⟨45, by decide⟩ (by decide) ?_
    refine e_aload_0 dX4_changedByRange_39 rfl ?_
    refine e_iconst (v := nI 2) dX4_changedByRange_40 rfl ic_2 ?_
    refine e_callV dX4_changedByRange_41 rfl csX4_90 (m_fails (k := 2) hf (hM0.mr hmr)) rfl rfl ps_64 (by decide) (by decide) ⟨Nat.le_of_ble_eq_true rfl, Nat.le_of_ble_eq_true rfl⟩ ⟨Nat.le_of_ble_eq_true rfl, Nat.le_of_ble_eq_true rfl⟩ rfl rfl (Nat.le_of_ble_eq_true rfl) ?_
    exact e_iret dX4_changedByRange_44 rfl rfl (Nat.le_of_ble_eq_true rfl) (Nat.le_of_ble_eq_true rfl) rfl rfl
  · refine e_aload_0 dX4_changedByRange_0 rfl ?_
    refine e_iconst (v := nI 0) dX4_changedByRange_1 rfl ic_0 ?_
    refine e_putI dX4_changedByRange_2 rfl lkX4_68 rfl rfl rfl ps_64 (by decide) (by decide) ?_
    refine e_aload_0 dX4_changedByRange_5 rfl ?_
    refine e_iload_1 dX4_changedByRange_6 rfl ?_
    refine e_callV dX4_changedByRange_7 rfl csX4_93 (m_isObject_y hf (hM0.MO hO).2.1 hO.1 ho) rfl rfl ps_64 (by decide) (by decide) ⟨Nat.le_of_ble_eq_true rfl, Nat.le_of_ble_eq_true rfl⟩ ⟨Nat.le_of_ble_eq_true rfl, Nat.le_of_ble_eq_true rfl⟩ rfl rfl (Nat.le_of_ble_eq_true rfl) ?_
    refine e_if_ne_t (tgt := 19) dX4_changedByRange_10 (by decide) (by decide) ?_
    refine e_iload_2 dX4_changedByRange_19 rfl ?_
    refine e_iconst (v := nI 0) dX4_changedByRange_20 rfl ic_0 ?_
    refine e_bipush (v := nI 31) dX4_changedByRange_21 rfl bc_31 ?_
    refine e_callS dX4_changedByRange_23 rfl csX4_75 (m_in_f hf (in32_n q)) rfl rfl ⟨Nat.le_of_ble_eq_true rfl, Nat.le_of_ble_eq_true rfl⟩ ⟨Nat.le_of_ble_eq_true rfl, Nat.le_of_ble_eq_true rfl⟩ rfl rfl (Nat.le_of_ble_eq_true rfl) ?_
    refine e_if_eq_t (tgt := 39) dX4_changedByRange_26 (by decide) (by decide) ?_
    refine e_aload_0 dX4_changedByRange_39 rfl ?_
    refine e_iconst (v := nI 2) dX4_changedByRange_40 rfl ic_2 ?_
    refine e_callV dX4_changedByRange_41 rfl csX4_90 (m_fails (k := 2) hf (hM0.mr hmr)) rfl rfl ps_64 (by decide) (by decide) ⟨Nat.le_of_ble_eq_true rfl, Nat.le_of_ble_eq_true rfl⟩ ⟨Nat.le_of_ble_eq_true rfl, Nat.le_of_ble_eq_true rfl⟩ rfl rfl (Nat.le_of_ble_eq_true rfl) ?_
    exact e_iret dX4_changedByRange_44 rfl rfl (Nat.le_of_ble_eq_true rfl) (Nat.le_of_ble_eq_true rfl) rfl rfl
theorem m_shadowedShare_ok {l : Launch} (hf : l.stackTraces = false) {M N : pmM} (hN : MS M N) {od : Nat → Nat} (hmr : M.2.1 = mrC od) {oc rc : Nat} {rg mc : Nat → Nat} {lo hi mb : Nat → Nat → Nat} {mo : Nat → Nat} (hO : MO M oc rg mc lo hi mb) (hmc : M.1 64 8 = nI rc) (h8 : rc ≤ 8) (hmo : ∀ p, p < rc → M.1 70 p = nI (mo p) ∧ mo p < 8) (hfo : OBF M mo rc oc) {bk : Nat → Nat} (hbk : bk = (bkC M (ScF oc rg mc lo hi mb (-1) (nI 0)) mo rc)) (hz : cntN (fun p => onM M (mo p)) rc ≠ 0) : ∃ N', MS M N' ∧ N'.1 64 0 = nI 0 ∧ Sp l kX4_shadowedShare 86 3 0 0 [.ref 64] N (.inl (some (.float (FP.fdiv (FP.i2f (nI (cntN (fun p => onM M (mo p) && decide (dcN bk p = 0)) rc))) (FP.i2f (nI (cntN (fun p => onM M (mo p)) rc))))))) N' := by
  have hM0 := hN.cd 0
  have hrc : ∀ {P : pmM}, MS M P → P.1 64 8 = nI rc := fun h => (h.at (Or.inr ⟨rfl, by decide⟩)).trans hmc
  have hor : ∀ {P : pmM}, MS M P → ∀ p, p < rc → P.1 70 p = nI (mo p) := fun h p hp => (h.at (Or.inl (by decide))).trans (hmo p hp).1
  have hor2 : ∀ {P : pmM}, MS M P → ∀ p, p < rc → P.1 70 p = nI (mo p) ∧ mo p < 8 := fun h p hp => ⟨hor h p hp, (hmo p hp).2⟩
  have h72 : ∀ {P : pmM}, MS M P → ∀ s, P.1 72 s = M.1 72 s := fun h s => h.at (Or.inl (by decide))
  obtain ⟨N1, a1, a2, a3, a4, a5, a6⟩ := m_laysNow2 hf hM0 hmr hO hmc h8 hmo hfo
  rw [← hbk] at a3
  refine ⟨N1, a1, a2, ?_⟩
  refine sp_of hf (by decide +kernel) (Nat.le_of_ble_eq_true rfl) (by intro v hv; simp at hv; subst hv; rfl) rfl ?_
  refine e_aload_0 dX4_shadowedShare_0 rfl ?_
  refine e_iconst (v := nI 0) dX4_shadowedShare_1 rfl ic_0 ?_
  refine e_putI dX4_shadowedShare_2 rfl lkX4_68 rfl rfl rfl ps_64 (by decide) (by decide) ?_
  refine e_aload_0 dX4_shadowedShare_5 rfl ?_
  refine e_callV dX4_shadowedShare_6 rfl csX4_130 a6 rfl rfl ps_64 (by decide) (by decide) ⟨Nat.le_of_ble_eq_true rfl, Nat.le_of_ble_eq_true rfl⟩ ⟨Nat.le_of_ble_eq_true rfl, Nat.le_of_ble_eq_true rfl⟩ rfl rfl (Nat.le_of_ble_eq_true rfl) ?_
  refine e_pop dX4_shadowedShare_9 rfl rfl ?_
  refine e_iconst (v := nI 0) dX4_shadowedShare_10 rfl ic_0 ?_
  refine e_istore_1 dX4_shadowedShare_11 rfl (Nat.le_of_ble_eq_true rfl) rfl ?_
  refine e_iconst (v := nI 0) dX4_shadowedShare_12 rfl ic_0 ?_
  refine e_istore_2 dX4_shadowedShare_13 rfl (Nat.le_of_ble_eq_true rfl) rfl ?_
  refine e_iconst (v := nI 0) dX4_shadowedShare_14 rfl ic_0 ?_
  refine e_istore_3 dX4_shadowedShare_15 rfl (Nat.le_of_ble_eq_true rfl) rfl ?_
  refine loop_up (P := fun i => Ev l kX4_shadowedShare (gM 86 0 0 (.inl (some (.float (FP.fdiv (FP.i2f (nI (cntN (fun p => onM M (mo p) && decide (dcN bk p = 0)) rc))) (FP.i2f (nI (cntN (fun p => onM M (mo p)) rc))))))) N1) (rmd 3 0 0) 86 0 0 16 [some (.ref 64), some (.int (nI (cntN (fun p => onM M (mo p)) i))), some (.int (nI (cntN (fun p => onM M (mo p) && decide (dcN bk p = 0)) i))), some (.int (nI i)), none] [] N1) ?_ (fun i hi ih => ?_) 0 (Nat.zero_le rc)
  · have hl : cntN (fun p => onM M (mo p)) rc ≤ rc := cntN_le _ _
    refine e_iload_3 dX4_shadowedShare_16 rfl ?_
    refine e_aload_0 dX4_shadowedShare_17 rfl ?_
    refine e_getI dX4_shadowedShare_18 rfl lkX4_79 rfl ps_64 (by decide) (by decide) ?_
    refine e_topi (nI rc) (hrc a1) ?_
    refine e_nc_ge_t (tgt := 76) dX4_shadowedShare_21 (by decide) (by omega) (by omega) (Nat.le_refl _) ?_
    refine e_iload_1 dX4_shadowedShare_76 rfl ?_
    refine e_if_ne_t (tgt := 87) dX4_shadowedShare_77 (by decide) (nI_ne0 (Nat.pos_of_ne_zero hz) (by omega)) ?_
    refine e_iload_2 dX4_shadowedShare_87 rfl ?_
    refine e_i2f dX4_shadowedShare_88 rfl ?_
    refine e_iload_1 dX4_shadowedShare_89 rfl ?_
    refine e_i2f dX4_shadowedShare_90 rfl ?_
    refine e_fdiv dX4_shadowedShare_91 rfl (fl_div32 _ (nI_ne0 (Nat.pos_of_ne_zero hz) (by omega))) ?_
    exact e_fret dX4_shadowedShare_92 rfl (Nat.le_of_ble_eq_true rfl) (Nat.le_of_ble_eq_true rfl) rfl rfl
  · have hs := (hmo i hi).2
    have hdl : dcN bk i ≤ 32768 := cntN_le _ _
    cases ho : onM M (mo i) with
    | false =>
      refine e_iload_3 dX4_shadowedShare_16 rfl ?_
      refine e_aload_0 dX4_shadowedShare_17 rfl ?_
      refine e_getI dX4_shadowedShare_18 rfl lkX4_79 rfl ps_64 (by decide) (by decide) ?_
      refine e_topi (nI rc) (hrc a1) ?_
      refine e_nc_ge_f dX4_shadowedShare_21 rfl ⟨76, by decide⟩ (by omega) (by omega) hi ?_
      refine e_aload_0 dX4_shadowedShare_24 rfl ?_
      refine e_aload_0 dX4_shadowedShare_25 rfl ?_
      refine e_getR dX4_shadowedShare_26 rfl lkX4_25 rfl ps_64 (by decide) (by decide) (mr_of (a1.mr hmr) rfl) ?_
      refine e_iload_3 dX4_shadowedShare_29 rfl ?_
      refine e_iald dX4_shadowedShare_30 rfl ps_70 (by decide) rfl (by omega) ?_
      refine e_topi (nI (mo i)) (hor a1 i hi) ?_
      refine e_callV dX4_shadowedShare_31 rfl csX4_113 (m_isOn hf (a1.mr hmr) hs) rfl rfl ps_64 (by decide) (by decide) ⟨Nat.le_of_ble_eq_true rfl, Nat.le_of_ble_eq_true rfl⟩ ⟨Nat.le_of_ble_eq_true rfl, Nat.le_of_ble_eq_true rfl⟩ rfl rfl (Nat.le_of_ble_eq_true rfl) ?_
      refine e_topi (bI (onM M (mo i))) (congrArg bI (onM_at a1 _)) ?_
      refine e_istore_4 dX4_shadowedShare_34 rfl (Nat.le_of_ble_eq_true rfl) rfl ?_
      refine e_iload_1 dX4_shadowedShare_36 rfl ?_
      refine e_iload_4 dX4_shadowedShare_37 rfl ?_
      refine e_if_eq_t (tgt := 46) dX4_shadowedShare_39 (by decide) (bI0 ho) ?_
      refine e_iconst (v := nI 0) dX4_shadowedShare_46 rfl ic_0 ?_
      refine e_iadd dX4_shadowedShare_47 rfl ?_
      refine e_topi (nI (cntN (fun p => onM M (mo p)) i + 0)) (nI_add _ _) ?_
      refine e_istore_1 dX4_shadowedShare_48 rfl (Nat.le_of_ble_eq_true rfl) rfl ?_
      refine e_iload_2 dX4_shadowedShare_49 rfl ?_
      refine e_iload_4 dX4_shadowedShare_50 rfl ?_
      refine e_if_eq_t (tgt := 67) dX4_shadowedShare_52 (by decide) (bI0 ho) ?_
      refine e_iconst (v := nI 0) dX4_shadowedShare_67 rfl ic_0 ?_
      refine e_iadd dX4_shadowedShare_68 rfl ?_
      refine e_topi (nI (cntN (fun p => onM M (mo p) && decide (dcN bk p = 0)) i + 0)) (nI_add _ _) ?_
      refine e_istore_2 dX4_shadowedShare_69 rfl (Nat.le_of_ble_eq_true rfl) rfl ?_
      refine e_iinc_3 (v := nI (i + 1)) dX4_shadowedShare_70 rfl (Nat.le_of_ble_eq_true rfl) rfl (nI_1 i) ?_
      refine e_goto (tgt := 16) dX4_shadowedShare_73 (by decide) ?_
      refine e_weak (weak_c (weak_c (weak_c (weak_c (weak_n weak_nil))))) ?_
      refine e_loc ?_ ih
      rw [cntN, cntN, if_neg (by rw [ho]; decide), if_neg (by rw [ho, Bool.false_and]; decide)]; rfl
    | true =>
      by_cases hz2 : dcN bk i = 0
      · refine e_iload_3 dX4_shadowedShare_16 rfl ?_
        refine e_aload_0 dX4_shadowedShare_17 rfl ?_
        refine e_getI dX4_shadowedShare_18 rfl lkX4_79 rfl ps_64 (by decide) (by decide) ?_
        refine e_topi (nI rc) (hrc a1) ?_
        refine e_nc_ge_f dX4_shadowedShare_21 rfl ⟨76, by decide⟩ (by omega) (by omega) hi ?_
        refine e_aload_0 dX4_shadowedShare_24 rfl ?_
        refine e_aload_0 dX4_shadowedShare_25 rfl ?_
        refine e_getR dX4_shadowedShare_26 rfl lkX4_25 rfl ps_64 (by decide) (by decide) (mr_of (a1.mr hmr) rfl) ?_
        refine e_iload_3 dX4_shadowedShare_29 rfl ?_
        refine e_iald dX4_shadowedShare_30 rfl ps_70 (by decide) rfl (by omega) ?_
        refine e_topi (nI (mo i)) (hor a1 i hi) ?_
        refine e_callV dX4_shadowedShare_31 rfl csX4_113 (m_isOn hf (a1.mr hmr) hs) rfl rfl ps_64 (by decide) (by decide) ⟨Nat.le_of_ble_eq_true rfl, Nat.le_of_ble_eq_true rfl⟩ ⟨Nat.le_of_ble_eq_true rfl, Nat.le_of_ble_eq_true rfl⟩ rfl rfl (Nat.le_of_ble_eq_true rfl) ?_
        refine e_topi (bI (onM M (mo i))) (congrArg bI (onM_at a1 _)) ?_
        refine e_istore_4 dX4_shadowedShare_34 rfl (Nat.le_of_ble_eq_true rfl) rfl ?_
        refine e_iload_1 dX4_shadowedShare_36 rfl ?_
        refine e_iload_4 dX4_shadowedShare_37 rfl ?_
        refine e_if_eq_f dX4_shadowedShare_39 rfl ⟨46, by decide⟩ (bI1 ho) ?_
        refine e_iconst (v := nI 1) dX4_shadowedShare_42 rfl ic_1 ?_
        refine e_goto (tgt := 47) dX4_shadowedShare_43 (by decide) ?_
        refine e_iadd dX4_shadowedShare_47 rfl ?_
        refine e_topi (nI (cntN (fun p => onM M (mo p)) i + 1)) (nI_add _ _) ?_
        refine e_istore_1 dX4_shadowedShare_48 rfl (Nat.le_of_ble_eq_true rfl) rfl ?_
        refine e_iload_2 dX4_shadowedShare_49 rfl ?_
        refine e_iload_4 dX4_shadowedShare_50 rfl ?_
        refine e_if_eq_f dX4_shadowedShare_52 rfl ⟨67, by decide⟩ (bI1 ho) ?_
        refine e_aload_0 dX4_shadowedShare_55 rfl ?_
        refine e_iload_3 dX4_shadowedShare_56 rfl ?_
        refine e_callV dX4_shadowedShare_57 rfl csX4_147 (m_decidingP hf (a1.mr hmr) a3 (by omega)) rfl rfl ps_64 (by decide) (by decide) ⟨Nat.le_of_ble_eq_true rfl, Nat.le_of_ble_eq_true rfl⟩ ⟨Nat.le_of_ble_eq_true rfl, Nat.le_of_ble_eq_true rfl⟩ rfl rfl (Nat.le_of_ble_eq_true rfl) ?_
        refine e_if_ne_f dX4_shadowedShare_60 rfl ⟨67, by decide⟩ (show nI (dcN bk i) = 0 by rw [hz2]; rfl) ?_
        refine e_iconst (v := nI 1) dX4_shadowedShare_63 rfl ic_1 ?_
        refine e_goto (tgt := 68) dX4_shadowedShare_64 (by decide) ?_
        refine e_iadd dX4_shadowedShare_68 rfl ?_
        refine e_topi (nI (cntN (fun p => onM M (mo p) && decide (dcN bk p = 0)) i + 1)) (nI_add _ _) ?_
        refine e_istore_2 dX4_shadowedShare_69 rfl (Nat.le_of_ble_eq_true rfl) rfl ?_
        refine e_iinc_3 (v := nI (i + 1)) dX4_shadowedShare_70 rfl (Nat.le_of_ble_eq_true rfl) rfl (nI_1 i) ?_
        refine e_goto (tgt := 16) dX4_shadowedShare_73 (by decide) ?_
        refine e_weak (weak_c (weak_c (weak_c (weak_c (weak_n weak_nil))))) ?_
        refine e_loc ?_ ih
        rw [cntN, cntN, if_pos ho, if_pos (by rw [ho, decide_eq_true hz2]; rfl)]
      · refine e_iload_3 dX4_shadowedShare_16 rfl ?_
        refine e_aload_0 dX4_shadowedShare_17 rfl ?_
        refine e_getI dX4_shadowedShare_18 rfl lkX4_79 rfl ps_64 (by decide) (by decide) ?_
        refine e_topi (nI rc) (hrc a1) ?_
        refine e_nc_ge_f dX4_shadowedShare_21 rfl ⟨76, by decide⟩ (by omega) (by omega) hi ?_
        refine e_aload_0 dX4_shadowedShare_24 rfl ?_
        refine e_aload_0 dX4_shadowedShare_25 rfl ?_
        refine e_getR dX4_shadowedShare_26 rfl lkX4_25 rfl ps_64 (by decide) (by decide) (mr_of (a1.mr hmr) rfl) ?_
        refine e_iload_3 dX4_shadowedShare_29 rfl ?_
        refine e_iald dX4_shadowedShare_30 rfl ps_70 (by decide) rfl (by omega) ?_
        refine e_topi (nI (mo i)) (hor a1 i hi) ?_
        refine e_callV dX4_shadowedShare_31 rfl csX4_113 (m_isOn hf (a1.mr hmr) hs) rfl rfl ps_64 (by decide) (by decide) ⟨Nat.le_of_ble_eq_true rfl, Nat.le_of_ble_eq_true rfl⟩ ⟨Nat.le_of_ble_eq_true rfl, Nat.le_of_ble_eq_true rfl⟩ rfl rfl (Nat.le_of_ble_eq_true rfl) ?_
        refine e_topi (bI (onM M (mo i))) (congrArg bI (onM_at a1 _)) ?_
        refine e_istore_4 dX4_shadowedShare_34 rfl (Nat.le_of_ble_eq_true rfl) rfl ?_
        refine e_iload_1 dX4_shadowedShare_36 rfl ?_
        refine e_iload_4 dX4_shadowedShare_37 rfl ?_
        refine e_if_eq_f dX4_shadowedShare_39 rfl ⟨46, by decide⟩ (bI1 ho) ?_
        refine e_iconst (v := nI 1) dX4_shadowedShare_42 rfl ic_1 ?_
        refine e_goto (tgt := 47) dX4_shadowedShare_43 (by decide) ?_
        refine e_iadd dX4_shadowedShare_47 rfl ?_
        refine e_topi (nI (cntN (fun p => onM M (mo p)) i + 1)) (nI_add _ _) ?_
        refine e_istore_1 dX4_shadowedShare_48 rfl (Nat.le_of_ble_eq_true rfl) rfl ?_
        refine e_iload_2 dX4_shadowedShare_49 rfl ?_
        refine e_iload_4 dX4_shadowedShare_50 rfl ?_
        refine e_if_eq_f dX4_shadowedShare_52 rfl ⟨67, by decide⟩ (bI1 ho) ?_
        refine e_aload_0 dX4_shadowedShare_55 rfl ?_
        refine e_iload_3 dX4_shadowedShare_56 rfl ?_
        refine e_callV dX4_shadowedShare_57 rfl csX4_147 (m_decidingP hf (a1.mr hmr) a3 (by omega)) rfl rfl ps_64 (by decide) (by decide) ⟨Nat.le_of_ble_eq_true rfl, Nat.le_of_ble_eq_true rfl⟩ ⟨Nat.le_of_ble_eq_true rfl, Nat.le_of_ble_eq_true rfl⟩ rfl rfl (Nat.le_of_ble_eq_true rfl) ?_
        refine e_if_ne_t (tgt := 67) dX4_shadowedShare_60 (by decide) (show ¬ nI (dcN bk i) = 0 from nI_ne0 (Nat.pos_of_ne_zero hz2) (by omega)) ?_
        refine e_iconst (v := nI 0) dX4_shadowedShare_67 rfl ic_0 ?_
        refine e_iadd dX4_shadowedShare_68 rfl ?_
        refine e_topi (nI (cntN (fun p => onM M (mo p) && decide (dcN bk p = 0)) i + 0)) (nI_add _ _) ?_
        refine e_istore_2 dX4_shadowedShare_69 rfl (Nat.le_of_ble_eq_true rfl) rfl ?_
        refine e_iinc_3 (v := nI (i + 1)) dX4_shadowedShare_70 rfl (Nat.le_of_ble_eq_true rfl) rfl (nI_1 i) ?_
        refine e_goto (tgt := 16) dX4_shadowedShare_73 (by decide) ?_
        refine e_weak (weak_c (weak_c (weak_c (weak_c (weak_n weak_nil))))) ?_
        refine e_loc ?_ ih
        rw [cntN, cntN, if_pos ho, if_neg (by rw [ho, decide_eq_false hz2]; decide)]; rfl
theorem m_shadowedShare_no {l : Launch} (hf : l.stackTraces = false) {M N : pmM} (hN : MS M N) {od : Nat → Nat} (hmr : M.2.1 = mrC od) {oc rc : Nat} {rg mc : Nat → Nat} {lo hi mb : Nat → Nat → Nat} {mo : Nat → Nat} (hO : MO M oc rg mc lo hi mb) (hmc : M.1 64 8 = nI rc) (h8 : rc ≤ 8) (hmo : ∀ p, p < rc → M.1 70 p = nI (mo p) ∧ mo p < 8) (hfo : OBF M mo rc oc) {bk : Nat → Nat} (hbk : bk = (bkC M (ScF oc rg mc lo hi mb (-1) (nI 0)) mo rc)) (hz : cntN (fun p => onM M (mo p)) rc = 0) : ∃ N', MS M N' ∧ N'.1 64 0 = nI 1 ∧ Sp l kX4_shadowedShare 86 3 0 0 [.ref 64] N (.inl (some (.float FP.fconst0))) N' := by
  have hM0 := hN.cd 0
  have hrc : ∀ {P : pmM}, MS M P → P.1 64 8 = nI rc := fun h => (h.at (Or.inr ⟨rfl, by decide⟩)).trans hmc
  have hor : ∀ {P : pmM}, MS M P → ∀ p, p < rc → P.1 70 p = nI (mo p) := fun h p hp => (h.at (Or.inl (by decide))).trans (hmo p hp).1
  have hor2 : ∀ {P : pmM}, MS M P → ∀ p, p < rc → P.1 70 p = nI (mo p) ∧ mo p < 8 := fun h p hp => ⟨hor h p hp, (hmo p hp).2⟩
  have h72 : ∀ {P : pmM}, MS M P → ∀ s, P.1 72 s = M.1 72 s := fun h s => h.at (Or.inl (by decide))
  obtain ⟨N1, a1, a2, a3, a4, a5, a6⟩ := m_laysNow2 hf hM0 hmr hO hmc h8 hmo hfo
  rw [← hbk] at a3
  refine ⟨(cdM N1 1), a1.cd 1, rfl, ?_⟩
  refine sp_of hf (by decide +kernel) (Nat.le_of_ble_eq_true rfl) (by intro v hv; simp at hv; subst hv; rfl) rfl ?_
  refine e_aload_0 dX4_shadowedShare_0 rfl ?_
  refine e_iconst (v := nI 0) dX4_shadowedShare_1 rfl ic_0 ?_
  refine e_putI dX4_shadowedShare_2 rfl lkX4_68 rfl rfl rfl ps_64 (by decide) (by decide) ?_
  refine e_aload_0 dX4_shadowedShare_5 rfl ?_
  refine e_callV dX4_shadowedShare_6 rfl csX4_130 a6 rfl rfl ps_64 (by decide) (by decide) ⟨Nat.le_of_ble_eq_true rfl, Nat.le_of_ble_eq_true rfl⟩ ⟨Nat.le_of_ble_eq_true rfl, Nat.le_of_ble_eq_true rfl⟩ rfl rfl (Nat.le_of_ble_eq_true rfl) ?_
  refine e_pop dX4_shadowedShare_9 rfl rfl ?_
  refine e_iconst (v := nI 0) dX4_shadowedShare_10 rfl ic_0 ?_
  refine e_istore_1 dX4_shadowedShare_11 rfl (Nat.le_of_ble_eq_true rfl) rfl ?_
  refine e_iconst (v := nI 0) dX4_shadowedShare_12 rfl ic_0 ?_
  refine e_istore_2 dX4_shadowedShare_13 rfl (Nat.le_of_ble_eq_true rfl) rfl ?_
  refine e_iconst (v := nI 0) dX4_shadowedShare_14 rfl ic_0 ?_
  refine e_istore_3 dX4_shadowedShare_15 rfl (Nat.le_of_ble_eq_true rfl) rfl ?_
  refine loop_up (P := fun i => Ev l kX4_shadowedShare (gM 86 0 0 (.inl (some (.float FP.fconst0))) (cdM N1 1)) (rmd 3 0 0) 86 0 0 16 [some (.ref 64), some (.int (nI (cntN (fun p => onM M (mo p)) i))), some (.int (nI (cntN (fun p => onM M (mo p) && decide (dcN bk p = 0)) i))), some (.int (nI i)), none] [] N1) ?_ (fun i hi ih => ?_) 0 (Nat.zero_le rc)
  · have hl : cntN (fun p => onM M (mo p)) rc ≤ rc := cntN_le _ _
    refine e_iload_3 dX4_shadowedShare_16 rfl ?_
    refine e_aload_0 dX4_shadowedShare_17 rfl ?_
    refine e_getI dX4_shadowedShare_18 rfl lkX4_79 rfl ps_64 (by decide) (by decide) ?_
    refine e_topi (nI rc) (hrc a1) ?_
    refine e_nc_ge_t (tgt := 76) dX4_shadowedShare_21 (by decide) (by omega) (by omega) (Nat.le_refl _) ?_
    refine e_iload_1 dX4_shadowedShare_76 rfl ?_
    refine e_if_ne_f dX4_shadowedShare_77 rfl ⟨87, by decide⟩ (by rw [hz]; rfl) ?_
    refine e_aload_0 dX4_shadowedShare_80 rfl ?_
    refine e_iconst (v := nI 1) dX4_shadowedShare_81 rfl ic_1 ?_
    refine e_putI dX4_shadowedShare_82 rfl lkX4_68 rfl rfl rfl ps_64 (by decide) (by decide) ?_
    refine e_fconst0 dX4_shadowedShare_85 rfl ?_
    exact e_fret dX4_shadowedShare_86 rfl (Nat.le_of_ble_eq_true rfl) (Nat.le_of_ble_eq_true rfl) rfl rfl
  · have hs := (hmo i hi).2
    have hdl : dcN bk i ≤ 32768 := cntN_le _ _
    cases ho : onM M (mo i) with
    | false =>
      refine e_iload_3 dX4_shadowedShare_16 rfl ?_
      refine e_aload_0 dX4_shadowedShare_17 rfl ?_
      refine e_getI dX4_shadowedShare_18 rfl lkX4_79 rfl ps_64 (by decide) (by decide) ?_
      refine e_topi (nI rc) (hrc a1) ?_
      refine e_nc_ge_f dX4_shadowedShare_21 rfl ⟨76, by decide⟩ (by omega) (by omega) hi ?_
      refine e_aload_0 dX4_shadowedShare_24 rfl ?_
      refine e_aload_0 dX4_shadowedShare_25 rfl ?_
      refine e_getR dX4_shadowedShare_26 rfl lkX4_25 rfl ps_64 (by decide) (by decide) (mr_of (a1.mr hmr) rfl) ?_
      refine e_iload_3 dX4_shadowedShare_29 rfl ?_
      refine e_iald dX4_shadowedShare_30 rfl ps_70 (by decide) rfl (by omega) ?_
      refine e_topi (nI (mo i)) (hor a1 i hi) ?_
      refine e_callV dX4_shadowedShare_31 rfl csX4_113 (m_isOn hf (a1.mr hmr) hs) rfl rfl ps_64 (by decide) (by decide) ⟨Nat.le_of_ble_eq_true rfl, Nat.le_of_ble_eq_true rfl⟩ ⟨Nat.le_of_ble_eq_true rfl, Nat.le_of_ble_eq_true rfl⟩ rfl rfl (Nat.le_of_ble_eq_true rfl) ?_
      refine e_topi (bI (onM M (mo i))) (congrArg bI (onM_at a1 _)) ?_
      refine e_istore_4 dX4_shadowedShare_34 rfl (Nat.le_of_ble_eq_true rfl) rfl ?_
      refine e_iload_1 dX4_shadowedShare_36 rfl ?_
      refine e_iload_4 dX4_shadowedShare_37 rfl ?_
      refine e_if_eq_t (tgt := 46) dX4_shadowedShare_39 (by decide) (bI0 ho) ?_
      refine e_iconst (v := nI 0) dX4_shadowedShare_46 rfl ic_0 ?_
      refine e_iadd dX4_shadowedShare_47 rfl ?_
      refine e_topi (nI (cntN (fun p => onM M (mo p)) i + 0)) (nI_add _ _) ?_
      refine e_istore_1 dX4_shadowedShare_48 rfl (Nat.le_of_ble_eq_true rfl) rfl ?_
      refine e_iload_2 dX4_shadowedShare_49 rfl ?_
      refine e_iload_4 dX4_shadowedShare_50 rfl ?_
      refine e_if_eq_t (tgt := 67) dX4_shadowedShare_52 (by decide) (bI0 ho) ?_
      refine e_iconst (v := nI 0) dX4_shadowedShare_67 rfl ic_0 ?_
      refine e_iadd dX4_shadowedShare_68 rfl ?_
      refine e_topi (nI (cntN (fun p => onM M (mo p) && decide (dcN bk p = 0)) i + 0)) (nI_add _ _) ?_
      refine e_istore_2 dX4_shadowedShare_69 rfl (Nat.le_of_ble_eq_true rfl) rfl ?_
      refine e_iinc_3 (v := nI (i + 1)) dX4_shadowedShare_70 rfl (Nat.le_of_ble_eq_true rfl) rfl (nI_1 i) ?_
      refine e_goto (tgt := 16) dX4_shadowedShare_73 (by decide) ?_
      refine e_weak (weak_c (weak_c (weak_c (weak_c (weak_n weak_nil))))) ?_
      refine e_loc ?_ ih
      rw [cntN, cntN, if_neg (by rw [ho]; decide), if_neg (by rw [ho, Bool.false_and]; decide)]; rfl
    | true =>
      by_cases hz2 : dcN bk i = 0
      · refine e_iload_3 dX4_shadowedShare_16 rfl ?_
        refine e_aload_0 dX4_shadowedShare_17 rfl ?_
        refine e_getI dX4_shadowedShare_18 rfl lkX4_79 rfl ps_64 (by decide) (by decide) ?_
        refine e_topi (nI rc) (hrc a1) ?_
        refine e_nc_ge_f dX4_shadowedShare_21 rfl ⟨76, by decide⟩ (by omega) (by omega) hi ?_
        refine e_aload_0 dX4_shadowedShare_24 rfl ?_
        refine e_aload_0 dX4_shadowedShare_25 rfl ?_
        refine e_getR dX4_shadowedShare_26 rfl lkX4_25 rfl ps_64 (by decide) (by decide) (mr_of (a1.mr hmr) rfl) ?_
        refine e_iload_3 dX4_shadowedShare_29 rfl ?_
        refine e_iald dX4_shadowedShare_30 rfl ps_70 (by decide) rfl (by omega) ?_
        refine e_topi (nI (mo i)) (hor a1 i hi) ?_
        refine e_callV dX4_shadowedShare_31 rfl csX4_113 (m_isOn hf (a1.mr hmr) hs) rfl rfl ps_64 (by decide) (by decide) ⟨Nat.le_of_ble_eq_true rfl, Nat.le_of_ble_eq_true rfl⟩ ⟨Nat.le_of_ble_eq_true rfl, Nat.le_of_ble_eq_true rfl⟩ rfl rfl (Nat.le_of_ble_eq_true rfl) ?_
        refine e_topi (bI (onM M (mo i))) (congrArg bI (onM_at a1 _)) ?_
        refine e_istore_4 dX4_shadowedShare_34 rfl (Nat.le_of_ble_eq_true rfl) rfl ?_
        refine e_iload_1 dX4_shadowedShare_36 rfl ?_
        refine e_iload_4 dX4_shadowedShare_37 rfl ?_
        refine e_if_eq_f dX4_shadowedShare_39 rfl ⟨46, by decide⟩ (bI1 ho) ?_
        refine e_iconst (v := nI 1) dX4_shadowedShare_42 rfl ic_1 ?_
        refine e_goto (tgt := 47) dX4_shadowedShare_43 (by decide) ?_
        refine e_iadd dX4_shadowedShare_47 rfl ?_
        refine e_topi (nI (cntN (fun p => onM M (mo p)) i + 1)) (nI_add _ _) ?_
        refine e_istore_1 dX4_shadowedShare_48 rfl (Nat.le_of_ble_eq_true rfl) rfl ?_
        refine e_iload_2 dX4_shadowedShare_49 rfl ?_
        refine e_iload_4 dX4_shadowedShare_50 rfl ?_
        refine e_if_eq_f dX4_shadowedShare_52 rfl ⟨67, by decide⟩ (bI1 ho) ?_
        refine e_aload_0 dX4_shadowedShare_55 rfl ?_
        refine e_iload_3 dX4_shadowedShare_56 rfl ?_
        refine e_callV dX4_shadowedShare_57 rfl csX4_147 (m_decidingP hf (a1.mr hmr) a3 (by omega)) rfl rfl ps_64 (by decide) (by decide) ⟨Nat.le_of_ble_eq_true rfl, Nat.le_of_ble_eq_true rfl⟩ ⟨Nat.le_of_ble_eq_true rfl, Nat.le_of_ble_eq_true rfl⟩ rfl rfl (Nat.le_of_ble_eq_true rfl) ?_
        refine e_if_ne_f dX4_shadowedShare_60 rfl ⟨67, by decide⟩ (show nI (dcN bk i) = 0 by rw [hz2]; rfl) ?_
        refine e_iconst (v := nI 1) dX4_shadowedShare_63 rfl ic_1 ?_
        refine e_goto (tgt := 68) dX4_shadowedShare_64 (by decide) ?_
        refine e_iadd dX4_shadowedShare_68 rfl ?_
        refine e_topi (nI (cntN (fun p => onM M (mo p) && decide (dcN bk p = 0)) i + 1)) (nI_add _ _) ?_
        refine e_istore_2 dX4_shadowedShare_69 rfl (Nat.le_of_ble_eq_true rfl) rfl ?_
        refine e_iinc_3 (v := nI (i + 1)) dX4_shadowedShare_70 rfl (Nat.le_of_ble_eq_true rfl) rfl (nI_1 i) ?_
        refine e_goto (tgt := 16) dX4_shadowedShare_73 (by decide) ?_
        refine e_weak (weak_c (weak_c (weak_c (weak_c (weak_n weak_nil))))) ?_
        refine e_loc ?_ ih
        rw [cntN, cntN, if_pos ho, if_pos (by rw [ho, decide_eq_true hz2]; rfl)]
      · refine e_iload_3 dX4_shadowedShare_16 rfl ?_
        refine e_aload_0 dX4_shadowedShare_17 rfl ?_
        refine e_getI dX4_shadowedShare_18 rfl lkX4_79 rfl ps_64 (by decide) (by decide) ?_
        refine e_topi (nI rc) (hrc a1) ?_
        refine e_nc_ge_f dX4_shadowedShare_21 rfl ⟨76, by decide⟩ (by omega) (by omega) hi ?_
        refine e_aload_0 dX4_shadowedShare_24 rfl ?_
        refine e_aload_0 dX4_shadowedShare_25 rfl ?_
        refine e_getR dX4_shadowedShare_26 rfl lkX4_25 rfl ps_64 (by decide) (by decide) (mr_of (a1.mr hmr) rfl) ?_
        refine e_iload_3 dX4_shadowedShare_29 rfl ?_
        refine e_iald dX4_shadowedShare_30 rfl ps_70 (by decide) rfl (by omega) ?_
        refine e_topi (nI (mo i)) (hor a1 i hi) ?_
        refine e_callV dX4_shadowedShare_31 rfl csX4_113 (m_isOn hf (a1.mr hmr) hs) rfl rfl ps_64 (by decide) (by decide) ⟨Nat.le_of_ble_eq_true rfl, Nat.le_of_ble_eq_true rfl⟩ ⟨Nat.le_of_ble_eq_true rfl, Nat.le_of_ble_eq_true rfl⟩ rfl rfl (Nat.le_of_ble_eq_true rfl) ?_
        refine e_topi (bI (onM M (mo i))) (congrArg bI (onM_at a1 _)) ?_
        refine e_istore_4 dX4_shadowedShare_34 rfl (Nat.le_of_ble_eq_true rfl) rfl ?_
        refine e_iload_1 dX4_shadowedShare_36 rfl ?_
        refine e_iload_4 dX4_shadowedShare_37 rfl ?_
        refine e_if_eq_f dX4_shadowedShare_39 rfl ⟨46, by decide⟩ (bI1 ho) ?_
        refine e_iconst (v := nI 1) dX4_shadowedShare_42 rfl ic_1 ?_
        refine e_goto (tgt := 47) dX4_shadowedShare_43 (by decide) ?_
        refine e_iadd dX4_shadowedShare_47 rfl ?_
        refine e_topi (nI (cntN (fun p => onM M (mo p)) i + 1)) (nI_add _ _) ?_
        refine e_istore_1 dX4_shadowedShare_48 rfl (Nat.le_of_ble_eq_true rfl) rfl ?_
        refine e_iload_2 dX4_shadowedShare_49 rfl ?_
        refine e_iload_4 dX4_shadowedShare_50 rfl ?_
        refine e_if_eq_f dX4_shadowedShare_52 rfl ⟨67, by decide⟩ (bI1 ho) ?_
        refine e_aload_0 dX4_shadowedShare_55 rfl ?_
        refine e_iload_3 dX4_shadowedShare_56 rfl ?_
        refine e_callV dX4_shadowedShare_57 rfl csX4_147 (m_decidingP hf (a1.mr hmr) a3 (by omega)) rfl rfl ps_64 (by decide) (by decide) ⟨Nat.le_of_ble_eq_true rfl, Nat.le_of_ble_eq_true rfl⟩ ⟨Nat.le_of_ble_eq_true rfl, Nat.le_of_ble_eq_true rfl⟩ rfl rfl (Nat.le_of_ble_eq_true rfl) ?_
        refine e_if_ne_t (tgt := 67) dX4_shadowedShare_60 (by decide) (show ¬ nI (dcN bk i) = 0 from nI_ne0 (Nat.pos_of_ne_zero hz2) (by omega)) ?_
        refine e_iconst (v := nI 0) dX4_shadowedShare_67 rfl ic_0 ?_
        refine e_iadd dX4_shadowedShare_68 rfl ?_
        refine e_topi (nI (cntN (fun p => onM M (mo p) && decide (dcN bk p = 0)) i + 0)) (nI_add _ _) ?_
        refine e_istore_2 dX4_shadowedShare_69 rfl (Nat.le_of_ble_eq_true rfl) rfl ?_
        refine e_iinc_3 (v := nI (i + 1)) dX4_shadowedShare_70 rfl (Nat.le_of_ble_eq_true rfl) rfl (nI_1 i) ?_
        refine e_goto (tgt := 16) dX4_shadowedShare_73 (by decide) ?_
        refine e_weak (weak_c (weak_c (weak_c (weak_c (weak_n weak_nil))))) ?_
        refine e_loc ?_ ih
        rw [cntN, cntN, if_pos ho, if_neg (by rw [ho, decide_eq_false hz2]; decide)]; rfl
def suM (M : pmM) (mo : Nat → Nat) : Nat → Int32
  | 0 => nI 0
  | n + 1 => suM M mo n + M.1 77 (mo n)
theorem m_meanHits_ok {l : Launch} (hf : l.stackTraces = false) {M N : pmM} (hN : MS M N) {od : Nat → Nat} (hmr : M.2.1 = mrC od) {oc rc : Nat} {rg mc : Nat → Nat} {lo hi mb : Nat → Nat → Nat} {mo : Nat → Nat} (hO : MO M oc rg mc lo hi mb) (hmc : M.1 64 8 = nI rc) (h8 : rc ≤ 8) (hmo : ∀ p, p < rc → M.1 70 p = nI (mo p) ∧ mo p < 8) (hfo : OBF M mo rc oc) (hz : rc ≠ 0) : ∃ N', MS M N' ∧ N'.1 64 0 = nI 0 ∧ Sp l kX4_meanHits 86 1 0 0 [.ref 64] N (.inl (some (.double (FP.ddiv (FP.i2d (suM M mo rc)) (FP.i2d (nI rc)))))) N' := by
  have hM0 := hN.cd 0
  have hrc : ∀ {P : pmM}, MS M P → P.1 64 8 = nI rc := fun h => (h.at (Or.inr ⟨rfl, by decide⟩)).trans hmc
  have hor : ∀ {P : pmM}, MS M P → ∀ p, p < rc → P.1 70 p = nI (mo p) := fun h p hp => (h.at (Or.inl (by decide))).trans (hmo p hp).1
  have hor2 : ∀ {P : pmM}, MS M P → ∀ p, p < rc → P.1 70 p = nI (mo p) ∧ mo p < 8 := fun h p hp => ⟨hor h p hp, (hmo p hp).2⟩
  have h72 : ∀ {P : pmM}, MS M P → ∀ s, P.1 72 s = M.1 72 s := fun h s => h.at (Or.inl (by decide))
  refine ⟨(cdM N 0), hM0, rfl, ?_⟩
  refine sp_of hf (by decide +kernel) (Nat.le_of_ble_eq_true rfl) (by intro v hv; simp at hv; subst hv; rfl) rfl ?_
  refine e_aload_0 dX4_meanHits_0 rfl ?_
  refine e_iconst (v := nI 0) dX4_meanHits_1 rfl ic_0 ?_
  refine e_putI dX4_meanHits_2 rfl lkX4_68 rfl rfl rfl ps_64 (by decide) (by decide) ?_
  refine e_iconst (v := nI 0) dX4_meanHits_5 rfl ic_0 ?_
  refine e_istore_1 dX4_meanHits_6 rfl (Nat.le_of_ble_eq_true rfl) rfl ?_
  refine e_iconst (v := nI 0) dX4_meanHits_7 rfl ic_0 ?_
  refine e_istore_2 dX4_meanHits_8 rfl (Nat.le_of_ble_eq_true rfl) rfl ?_
  refine loop_up (P := fun i => Ev l kX4_meanHits (gM 86 0 0 (.inl (some (.double (FP.ddiv (FP.i2d (suM M mo rc)) (FP.i2d (nI rc)))))) (cdM N 0)) (rmd 1 0 0) 86 0 0 9 [some (.ref 64), some (.int (suM M mo i)), some (.int (nI i))] [] (cdM N 0)) ?_ (fun i hi ih => ?_) 0 (Nat.zero_le rc)
  · refine e_iload_2 dX4_meanHits_9 rfl ?_
    refine e_aload_0 dX4_meanHits_10 rfl ?_
    refine e_getI dX4_meanHits_11 rfl lkX4_79 rfl ps_64 (by decide) (by decide) ?_
    refine e_topi (nI rc) (hrc hM0) ?_
    refine e_nc_ge_t (tgt := 37) dX4_meanHits_14 (by decide) (by omega) (by omega) (Nat.le_refl _) ?_
    refine e_aload_0 dX4_meanHits_37 rfl ?_
    refine e_getI dX4_meanHits_38 rfl lkX4_79 rfl ps_64 (by decide) (by decide) ?_
    refine e_topi (nI rc) (hrc hM0) ?_
    refine e_if_ne_t (tgt := 51) dX4_meanHits_41 (by decide) (nI_ne0 (Nat.pos_of_ne_zero hz) (by omega)) ?_
    refine e_iload_1 dX4_meanHits_51 rfl ?_
    refine e_i2d dX4_meanHits_52 rfl ?_
    refine e_aload_0 dX4_meanHits_53 rfl ?_
    refine e_getI dX4_meanHits_54 rfl lkX4_79 rfl ps_64 (by decide) (by decide) ?_
    refine e_topi (nI rc) (hrc hM0) ?_
    refine e_i2d dX4_meanHits_57 rfl ?_
    refine e_ddiv dX4_meanHits_58 rfl (fl_div64 _ (nI_ne0 (Nat.pos_of_ne_zero hz) (by omega))) ?_
    exact e_dret dX4_meanHits_59 rfl (Nat.le_of_ble_eq_true rfl) (Nat.le_of_ble_eq_true rfl) rfl rfl
  · have hs := (hmo i hi).2
    refine e_iload_2 dX4_meanHits_9 rfl ?_
    refine e_aload_0 dX4_meanHits_10 rfl ?_
    refine e_getI dX4_meanHits_11 rfl lkX4_79 rfl ps_64 (by decide) (by decide) ?_
    refine e_topi (nI rc) (hrc hM0) ?_
    refine e_nc_ge_f dX4_meanHits_14 rfl ⟨37, by decide⟩ (by omega) (by omega) hi ?_
    refine e_iload_1 dX4_meanHits_17 rfl ?_
    refine e_aload_0 dX4_meanHits_18 rfl ?_
    refine e_getR dX4_meanHits_19 rfl lkX4_47 rfl ps_64 (by decide) (by decide) (mr_of (hN.mr hmr) rfl) ?_
    refine e_aload_0 dX4_meanHits_22 rfl ?_
    refine e_getR dX4_meanHits_23 rfl lkX4_25 rfl ps_64 (by decide) (by decide) (mr_of (hN.mr hmr) rfl) ?_
    refine e_iload_2 dX4_meanHits_26 rfl ?_
    refine e_iald dX4_meanHits_27 rfl ps_70 (by decide) rfl (by omega) ?_
    refine e_topi (nI (mo i)) (hor hM0 i hi) ?_
    refine e_iald dX4_meanHits_28 rfl ps_77 (by decide) rfl (by omega) ?_
    refine e_topi (M.1 77 (mo i)) (hM0.at (Or.inl (by decide))) ?_
    refine e_iadd dX4_meanHits_29 rfl ?_
    refine e_istore_1 dX4_meanHits_30 rfl (Nat.le_of_ble_eq_true rfl) rfl ?_
    refine e_iinc_2 (v := nI (i + 1)) dX4_meanHits_31 rfl (Nat.le_of_ble_eq_true rfl) rfl (nI_1 i) ?_
    refine e_goto (tgt := 9) dX4_meanHits_34 (by decide) ?_
    exact ih
theorem m_meanHits_no {l : Launch} (hf : l.stackTraces = false) {M N : pmM} (hN : MS M N) {od : Nat → Nat} (hmr : M.2.1 = mrC od) {oc rc : Nat} {rg mc : Nat → Nat} {lo hi mb : Nat → Nat → Nat} {mo : Nat → Nat} (hO : MO M oc rg mc lo hi mb) (hmc : M.1 64 8 = nI rc) (h8 : rc ≤ 8) (hmo : ∀ p, p < rc → M.1 70 p = nI (mo p) ∧ mo p < 8) (hfo : OBF M mo rc oc) (hz : rc = 0) : ∃ N', MS M N' ∧ N'.1 64 0 = nI 1 ∧ Sp l kX4_meanHits 86 1 0 0 [.ref 64] N (.inl (some (.double FP.dconst0))) N' := by
  have hM0 := hN.cd 0
  have hrc : ∀ {P : pmM}, MS M P → P.1 64 8 = nI rc := fun h => (h.at (Or.inr ⟨rfl, by decide⟩)).trans hmc
  have hor : ∀ {P : pmM}, MS M P → ∀ p, p < rc → P.1 70 p = nI (mo p) := fun h p hp => (h.at (Or.inl (by decide))).trans (hmo p hp).1
  have hor2 : ∀ {P : pmM}, MS M P → ∀ p, p < rc → P.1 70 p = nI (mo p) ∧ mo p < 8 := fun h p hp => ⟨hor h p hp, (hmo p hp).2⟩
  have h72 : ∀ {P : pmM}, MS M P → ∀ s, P.1 72 s = M.1 72 s := fun h s => h.at (Or.inl (by decide))
  refine ⟨(cdM (cdM N 0) 1), hM0.cd 1, rfl, ?_⟩
  refine sp_of hf (by decide +kernel) (Nat.le_of_ble_eq_true rfl) (by intro v hv; simp at hv; subst hv; rfl) rfl ?_
  refine e_aload_0 dX4_meanHits_0 rfl ?_
  refine e_iconst (v := nI 0) dX4_meanHits_1 rfl ic_0 ?_
  refine e_putI dX4_meanHits_2 rfl lkX4_68 rfl rfl rfl ps_64 (by decide) (by decide) ?_
  refine e_iconst (v := nI 0) dX4_meanHits_5 rfl ic_0 ?_
  refine e_istore_1 dX4_meanHits_6 rfl (Nat.le_of_ble_eq_true rfl) rfl ?_
  refine e_iconst (v := nI 0) dX4_meanHits_7 rfl ic_0 ?_
  refine e_istore_2 dX4_meanHits_8 rfl (Nat.le_of_ble_eq_true rfl) rfl ?_
  refine loop_up (P := fun i => Ev l kX4_meanHits (gM 86 0 0 (.inl (some (.double FP.dconst0))) (cdM (cdM N 0) 1)) (rmd 1 0 0) 86 0 0 9 [some (.ref 64), some (.int (suM M mo i)), some (.int (nI i))] [] (cdM N 0)) ?_ (fun i hi ih => ?_) 0 (Nat.zero_le rc)
  · refine e_iload_2 dX4_meanHits_9 rfl ?_
    refine e_aload_0 dX4_meanHits_10 rfl ?_
    refine e_getI dX4_meanHits_11 rfl lkX4_79 rfl ps_64 (by decide) (by decide) ?_
    refine e_topi (nI rc) (hrc hM0) ?_
    refine e_nc_ge_t (tgt := 37) dX4_meanHits_14 (by decide) (by omega) (by omega) (Nat.le_refl _) ?_
    refine e_aload_0 dX4_meanHits_37 rfl ?_
    refine e_getI dX4_meanHits_38 rfl lkX4_79 rfl ps_64 (by decide) (by decide) ?_
    refine e_topi (nI rc) (hrc hM0) ?_
    refine e_if_ne_f dX4_meanHits_41 rfl ⟨51, by decide⟩ (by rw [hz]; rfl) ?_
    refine e_aload_0 dX4_meanHits_44 rfl ?_
    refine e_iconst (v := nI 1) dX4_meanHits_45 rfl ic_1 ?_
    refine e_putI dX4_meanHits_46 rfl lkX4_68 rfl rfl rfl ps_64 (by decide) (by decide) ?_
    refine e_dconst0 dX4_meanHits_49 rfl ?_
    exact e_dret dX4_meanHits_50 rfl (Nat.le_of_ble_eq_true rfl) (Nat.le_of_ble_eq_true rfl) rfl rfl
  · have hs := (hmo i hi).2
    refine e_iload_2 dX4_meanHits_9 rfl ?_
    refine e_aload_0 dX4_meanHits_10 rfl ?_
    refine e_getI dX4_meanHits_11 rfl lkX4_79 rfl ps_64 (by decide) (by decide) ?_
    refine e_topi (nI rc) (hrc hM0) ?_
    refine e_nc_ge_f dX4_meanHits_14 rfl ⟨37, by decide⟩ (by omega) (by omega) hi ?_
    refine e_iload_1 dX4_meanHits_17 rfl ?_
    refine e_aload_0 dX4_meanHits_18 rfl ?_
    refine e_getR dX4_meanHits_19 rfl lkX4_47 rfl ps_64 (by decide) (by decide) (mr_of (hN.mr hmr) rfl) ?_
    refine e_aload_0 dX4_meanHits_22 rfl ?_
    refine e_getR dX4_meanHits_23 rfl lkX4_25 rfl ps_64 (by decide) (by decide) (mr_of (hN.mr hmr) rfl) ?_
    refine e_iload_2 dX4_meanHits_26 rfl ?_
    refine e_iald dX4_meanHits_27 rfl ps_70 (by decide) rfl (by omega) ?_
    refine e_topi (nI (mo i)) (hor hM0 i hi) ?_
    refine e_iald dX4_meanHits_28 rfl ps_77 (by decide) rfl (by omega) ?_
    refine e_topi (M.1 77 (mo i)) (hM0.at (Or.inl (by decide))) ?_
    refine e_iadd dX4_meanHits_29 rfl ?_
    refine e_istore_1 dX4_meanHits_30 rfl (Nat.le_of_ble_eq_true rfl) rfl ?_
    refine e_iinc_2 (v := nI (i + 1)) dX4_meanHits_31 rfl (Nat.le_of_ble_eq_true rfl) rfl (nI_1 i) ?_
    refine e_goto (tgt := 9) dX4_meanHits_34 (by decide) ?_
    exact ih
