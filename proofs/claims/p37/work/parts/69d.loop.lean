/-! ===== the law's loop ===== -/
theorem lp_1 {l : Launch} (hf : l.stackTraces = false) {nm : String} {hl : List (Nat × Nat × Nat × Nat)} {b Ln : Nat} {xs : Nat → Int32} (hL : Ln ≤ 260) {M : pmM} {od : Nat → Nat} {oc rc td g : Nat} {rg : Nat → Nat} {H : Nat} (h : IV M od oc rc td g rg H) {e u : Nat} (he : e < 46) (hg : g ≤ e) (hH : H ≤ e) (hu : u + 1500 ≤ 666358) (kk : ∀ (gg hh : Int32) (s : Nat), s < 32 → (e < 3 → s = 0) → Ev l (kLaw nm hl) (gS b Ln xs) room_1 64 (u) (6 * (u)) 135 [some (.ref 1000), some (.ref 0), some (.int (nI oc)), some (.int (nI g)), some (.int (nI e)), some (.int gg), some (.int hh), some (.int (nI s)), none, none, none, none, none, none, none, none, none, none] [] M) : Ev l (kLaw nm hl) (gS b Ln xs) room_1 64 (u) (6 * (u)) 71 [some (.ref 1000), some (.ref 0), some (.int (nI oc)), some (.int (nI g)), some (.int (nI e)), none, none, none, none, none, none, none, none, none, none, none, none, none] [] M := by
  refine e_iload_4 dL_law_71 rfl ?_
  refine e_bipush (v := nI 46) dL_law_73 rfl bd_46 ?_
  refine e_nc_ge_f dL_law_75 rfl ⟨962, by decide⟩ (by omega) (by omega) he ?_
  refine e_aload_0 dL_law_78 rfl ?_
  refine e_iconst (v := nI 2) dL_law_79 rfl ic_2 ?_
  refine e_iload_4 dL_law_80 rfl ?_
  refine e_imul dL_law_82 rfl ?_
  refine e_topi (nI (2 * e)) (pk_mul _ _) ?_
  refine e_callD (gS_sc b Ln xs) dL_law_83 rfl csL_148 (s_cell hf hL (show 2 * e < 2 ^ 31 by omega)) rfl rfl ⟨Nat.le_of_ble_eq_true rfl, Nat.le_of_ble_eq_true rfl⟩ ⟨(by show _ ≤ 666358; omega), (by show _ ≤ 7096541; omega)⟩ rfl rfl (Nat.le_of_ble_eq_true rfl) ?_
  refine e_istore_5 dL_law_86 rfl (Nat.le_of_ble_eq_true rfl) rfl ?_
  refine e_aload_0 dL_law_88 rfl ?_
  refine e_iconst (v := nI 2) dL_law_89 rfl ic_2 ?_
  refine e_iload_4 dL_law_90 rfl ?_
  refine e_imul dL_law_92 rfl ?_
  refine e_topi (nI (2 * e)) (pk_mul _ _) ?_
  refine e_iconst (v := nI 1) dL_law_93 rfl ic_1 ?_
  refine e_iadd dL_law_94 rfl ?_
  refine e_topi (nI (2 * e + 1)) (nI_add _ _) ?_
  refine e_callD (gS_sc b Ln xs) dL_law_95 rfl csL_148 (s_cell hf hL (show 2 * e + 1 < 2 ^ 31 by omega)) rfl rfl ⟨Nat.le_of_ble_eq_true rfl, Nat.le_of_ble_eq_true rfl⟩ ⟨(by show _ ≤ 666358; omega), (by show _ ≤ 7096541; omega)⟩ rfl rfl (Nat.le_of_ble_eq_true rfl) ?_
  refine e_istore_6 dL_law_98 rfl (Nat.le_of_ble_eq_true rfl) rfl ?_
  by_cases q3 : e < 3
  · refine e_iload_4 dL_law_100 rfl ?_
    refine e_iconst (v := nI 3) dL_law_102 rfl ic_3 ?_
    refine e_nc_ge_f dL_law_103 rfl ⟨110, by decide⟩ (by omega) (by omega) q3 ?_
    refine e_iconst (v := nI 0) dL_law_106 rfl ic_0 ?_
    refine e_goto (tgt := 133) dL_law_107 (by decide) ?_
    refine e_istore_7 dL_law_133 rfl (Nat.le_of_ble_eq_true rfl) rfl ?_
    exact kk _ _ 0 (by decide) (fun _ => rfl)
  · by_cases q9 : e < 9
    · refine e_iload_4 dL_law_100 rfl ?_
      refine e_iconst (v := nI 3) dL_law_102 rfl ic_3 ?_
      refine e_nc_ge_t (tgt := 110) dL_law_103 (by decide) (by omega) (by omega) (by omega) ?_
      refine e_iload_4 dL_law_110 rfl ?_
      refine e_bipush (v := nI 9) dL_law_112 rfl bc_9 ?_
      refine e_nc_ge_f dL_law_114 rfl ⟨128, by decide⟩ (by omega) (by omega) q9 ?_
      refine e_iconst (v := nI 1) dL_law_117 rfl ic_1 ?_
      refine e_iload_4 dL_law_118 rfl ?_
      refine e_iconst (v := nI 2) dL_law_120 rfl ic_2 ?_
      refine e_irem dL_law_121 rfl (by decide) ?_
      refine e_topi (nI (e % 2)) (pk_rem (by omega) (by decide) (by decide)) ?_
      refine e_iconst (v := nI 5) dL_law_122 rfl ic_5 ?_
      refine e_imul dL_law_123 rfl ?_
      refine e_topi (nI ((e % 2) * 5)) (pk_mul _ _) ?_
      refine e_iadd dL_law_124 rfl ?_
      refine e_topi (nI (1 + (e % 2) * 5)) (nI_add _ _) ?_
      refine e_goto (tgt := 133) dL_law_125 (by decide) ?_
      refine e_istore_7 dL_law_133 rfl (Nat.le_of_ble_eq_true rfl) rfl ?_
      exact kk _ _ (1 + e % 2 * 5) (by omega) (fun z => absurd z q3)
    · refine e_iload_4 dL_law_100 rfl ?_
      refine e_iconst (v := nI 3) dL_law_102 rfl ic_3 ?_
      refine e_nc_ge_t (tgt := 110) dL_law_103 (by decide) (by omega) (by omega) (by omega) ?_
      refine e_iload_4 dL_law_110 rfl ?_
      refine e_bipush (v := nI 9) dL_law_112 rfl bc_9 ?_
      refine e_nc_ge_t (tgt := 128) dL_law_114 (by decide) (by omega) (by omega) (by omega) ?_
      refine e_iload_5 dL_law_128 rfl ?_
      refine e_bipush (v := nI 31) dL_law_130 rfl bc_31 ?_
      refine e_iand dL_law_132 rfl ?_
      refine e_topi (nI (tN (cellV Ln xs (2 * e)) % 32)) (show cellV Ln xs (2 * e) &&& nI 31 = _ from pk_and _ 5 (by decide)) ?_
      refine e_istore_7 dL_law_133 rfl (Nat.le_of_ble_eq_true rfl) rfl ?_
      exact kk _ _ (tN (cellV Ln xs (2 * e)) % 32) (Nat.mod_lt _ (by decide)) (fun z => absurd z q3)
theorem lp_2 {l : Launch} (hf : l.stackTraces = false) {nm : String} {hl : List (Nat × Nat × Nat × Nat)} {b Ln : Nat} {xs : Nat → Int32} (hL : Ln ≤ 260) {M : pmM} {od : Nat → Nat} {oc rc td g : Nat} {rg : Nat → Nat} {H : Nat} (h : IV M od oc rc td g rg H) {e u : Nat} (he : e < 46) (hg : g ≤ e) (hH : H ≤ e) (hu : u + 1500 ≤ 666358) {gg hh : Int32} {s : Nat} (kk : ∀ ob : Nat, (0 < oc → ob < oc) → Ev l (kLaw nm hl) (gS b Ln xs) room_1 64 (u) (6 * (u)) 153 [some (.ref 1000), some (.ref 0), some (.int (nI oc)), some (.int (nI g)), some (.int (nI e)), some (.int gg), some (.int hh), some (.int (nI s)), some (.int (nI ob)), none, none, none, none, none, none, none, none, none] [] M) : Ev l (kLaw nm hl) (gS b Ln xs) room_1 64 (u) (6 * (u)) 135 [some (.ref 1000), some (.ref 0), some (.int (nI oc)), some (.int (nI g)), some (.int (nI e)), some (.int gg), some (.int hh), some (.int (nI s)), none, none, none, none, none, none, none, none, none, none] [] M := by
  have h8 := h.oc8
  refine e_iload_2 dL_law_135 rfl ?_
  by_cases q : oc = 0
  · refine e_if_ne_f dL_law_136 rfl ⟨143, by decide⟩ (by rw [q]; rfl) ?_
    refine e_iconst (v := nI 0) dL_law_139 rfl ic_0 ?_
    refine e_goto (tgt := 151) dL_law_140 (by decide) ?_
    refine e_istore_8 dL_law_151 rfl (Nat.le_of_ble_eq_true rfl) rfl ?_
    exact kk 0 (fun z => by omega)
  · refine e_if_ne_t (tgt := 143) dL_law_136 (by decide) (nI_ne (by omega) q) ?_
    refine e_iload_5 dL_law_143 rfl ?_
    refine e_iconst (v := nI 5) dL_law_145 rfl ic_5 ?_
    refine e_ishr dL_law_146 rfl ?_
    refine e_iload_2 dL_law_147 rfl ?_
    refine e_callS dL_law_148 rfl csL_129 (s_low (v := gg >>> (nI 5 &&& 31)) (k := oc) hf (by omega) (by omega)) rfl rfl ⟨Nat.le_of_ble_eq_true rfl, Nat.le_of_ble_eq_true rfl⟩ ⟨(by show _ ≤ 666358; omega), (by show _ ≤ 7096541; omega)⟩ rfl rfl (Nat.le_of_ble_eq_true rfl) ?_
    refine e_istore_8 dL_law_151 rfl (Nat.le_of_ble_eq_true rfl) rfl ?_
    exact kk _ (fun z => lowN_lt _ z)
theorem lp_3 {l : Launch} (hf : l.stackTraces = false) {nm : String} {hl : List (Nat × Nat × Nat × Nat)} {b Ln : Nat} {xs : Nat → Int32} (hL : Ln ≤ 260) {M : pmM} {od : Nat → Nat} {oc rc td g : Nat} {rg : Nat → Nat} {H : Nat} (h : IV M od oc rc td g rg H) {e u : Nat} (he : e < 46) (hg : g ≤ e) (hH : H ≤ e) (hu : u + 1500 ≤ 666358) {gg hh : Int32} {s ob : Nat} (kk : ∀ ru : Nat, Ev l (kLaw nm hl) (gS b Ln xs) room_1 64 (u) (6 * (u)) 172 [some (.ref 1000), some (.ref 0), some (.int (nI oc)), some (.int (nI g)), some (.int (nI e)), some (.int gg), some (.int hh), some (.int (nI s)), some (.int (nI ob)), some (.int (nI ru)), none, none, none, none, none, none, none, none] [] M) : Ev l (kLaw nm hl) (gS b Ln xs) room_1 64 (u) (6 * (u)) 153 [some (.ref 1000), some (.ref 0), some (.int (nI oc)), some (.int (nI g)), some (.int (nI e)), some (.int gg), some (.int hh), some (.int (nI s)), some (.int (nI ob)), none, none, none, none, none, none, none, none, none] [] M := by
  refine e_iload_3 dL_law_153 rfl ?_
  by_cases q : g = 0
  · refine e_if_ne_f dL_law_154 rfl ⟨161, by decide⟩ (by rw [q]; rfl) ?_
    refine e_iconst (v := nI 0) dL_law_157 rfl ic_0 ?_
    refine e_goto (tgt := 170) dL_law_158 (by decide) ?_
    refine e_istore_9 dL_law_170 rfl (Nat.le_of_ble_eq_true rfl) rfl ?_
    exact kk 0
  · refine e_if_ne_t (tgt := 161) dL_law_154 (by decide) (nI_ne (by omega) q) ?_
    refine e_iload_5 dL_law_161 rfl ?_
    refine e_bipush (v := nI 9) dL_law_163 rfl bc_9 ?_
    refine e_ishr dL_law_165 rfl ?_
    refine e_iload_3 dL_law_166 rfl ?_
    refine e_callS dL_law_167 rfl csL_129 (s_low (v := gg >>> (nI 9 &&& 31)) (k := g) hf (by omega) (by omega)) rfl rfl ⟨Nat.le_of_ble_eq_true rfl, Nat.le_of_ble_eq_true rfl⟩ ⟨(by show _ ≤ 666358; omega), (by show _ ≤ 7096541; omega)⟩ rfl rfl (Nat.le_of_ble_eq_true rfl) ?_
    refine e_istore_9 dL_law_170 rfl (Nat.le_of_ble_eq_true rfl) rfl ?_
    exact kk _
theorem lp_4 {l : Launch} (hf : l.stackTraces = false) {nm : String} {hl : List (Nat × Nat × Nat × Nat)} {b Ln : Nat} {xs : Nat → Int32} (hL : Ln ≤ 260) {M : pmM} {od : Nat → Nat} {oc rc td g : Nat} {rg : Nat → Nat} {H : Nat} (h : IV M od oc rc td g rg H) {e u : Nat} (he : e < 46) (hg : g ≤ e) (hH : H ≤ e) (hu : u + 1500 ≤ 666358) {gg hh : Int32} {s ob ru : Nat} (kk : ∀ po : Nat, (po < rc ∨ rc = 0) → Ev l (kLaw nm hl) (gS b Ln xs) room_1 64 (u) (6 * (u)) 197 [some (.ref 1000), some (.ref 0), some (.int (nI oc)), some (.int (nI g)), some (.int (nI e)), some (.int gg), some (.int hh), some (.int (nI s)), some (.int (nI ob)), some (.int (nI ru)), some (.int (nI po)), none, none, none, none, none, none, none] [] M) : Ev l (kLaw nm hl) (gS b Ln xs) room_1 64 (u) (6 * (u)) 172 [some (.ref 1000), some (.ref 0), some (.int (nI oc)), some (.int (nI g)), some (.int (nI e)), some (.int gg), some (.int hh), some (.int (nI s)), some (.int (nI ob)), some (.int (nI ru)), none, none, none, none, none, none, none, none] [] M := by
  have hr8 := h.rc8
  refine e_aload_1 dL_law_172 rfl ?_
  refine e_callV dL_law_173 rfl csL_123 (s_rules hf h.hrc hr8) rfl rfl ps_0 (by decide) (by decide) ⟨Nat.le_of_ble_eq_true rfl, Nat.le_of_ble_eq_true rfl⟩ ⟨(by show _ ≤ 666358; omega), (by show _ ≤ 7096541; omega)⟩ rfl rfl (Nat.le_of_ble_eq_true rfl) ?_
  by_cases q : rc = 0
  · refine e_if_ne_f dL_law_176 rfl ⟨183, by decide⟩ (by rw [q]; rfl) ?_
    refine e_iconst (v := nI 0) dL_law_179 rfl ic_0 ?_
    refine e_goto (tgt := 195) dL_law_180 (by decide) ?_
    refine e_istore_10 dL_law_195 rfl (Nat.le_of_ble_eq_true rfl) rfl ?_
    exact kk 0 (Or.inr q)
  · refine e_if_ne_t (tgt := 183) dL_law_176 (by decide) (nI_ne (by omega) q) ?_
    refine e_iload_5 dL_law_183 rfl ?_
    refine e_bipush (v := nI 14) dL_law_185 rfl bd_14 ?_
    refine e_ishr dL_law_187 rfl ?_
    refine e_aload_1 dL_law_188 rfl ?_
    refine e_callV dL_law_189 rfl csL_123 (s_rules hf h.hrc hr8) rfl rfl ps_0 (by decide) (by decide) ⟨Nat.le_of_ble_eq_true rfl, Nat.le_of_ble_eq_true rfl⟩ ⟨(by show _ ≤ 666358; omega), (by show _ ≤ 7096541; omega)⟩ rfl rfl (Nat.le_of_ble_eq_true rfl) ?_
    refine e_callS dL_law_192 rfl csL_129 (s_low (v := gg >>> (nI 14 &&& 31)) (k := rc) hf (by omega) (by omega)) rfl rfl ⟨Nat.le_of_ble_eq_true rfl, Nat.le_of_ble_eq_true rfl⟩ ⟨(by show _ ≤ 666358; omega), (by show _ ≤ 7096541; omega)⟩ rfl rfl (Nat.le_of_ble_eq_true rfl) ?_
    refine e_istore_10 dL_law_195 rfl (Nat.le_of_ble_eq_true rfl) rfl ?_
    exact kk _ (Or.inl (lowN_lt _ (by omega)))
theorem lp_5 {l : Launch} (hf : l.stackTraces = false) {nm : String} {hl : List (Nat × Nat × Nat × Nat)} {b Ln : Nat} {xs : Nat → Int32} (hL : Ln ≤ 260) {M : pmM} {od : Nat → Nat} {oc rc td g : Nat} {rg : Nat → Nat} {H : Nat} (h : IV M od oc rc td g rg H) {e u : Nat} (he : e < 46) (hg : g ≤ e) (hH : H ≤ e) (hu : u + 1500 ≤ 666358) {gg hh : Int32} {s ob ru po : Nat} (kk : Ev l (kLaw nm hl) (gS b Ln xs) room_1 64 (u + 568) (6 * (u + 568)) 213 [some (.ref 1000), some (.ref 0), some (.int (nI oc)), some (.int (nI g)), some (.int (nI e)), some (.int gg), some (.int hh), some (.int (nI s)), some (.int (nI ob)), some (.int (nI ru)), some (.int (nI po)), some (.long (svS M od oc rc td rg)), none, some (.int (nI (acN M od rc))), some (.int (nI 0)), none, none, none] [] M) : Ev l (kLaw nm hl) (gS b Ln xs) room_1 64 (u) (6 * (u)) 197 [some (.ref 1000), some (.ref 0), some (.int (nI oc)), some (.int (nI g)), some (.int (nI e)), some (.int gg), some (.int hh), some (.int (nI s)), some (.int (nI ob)), some (.int (nI ru)), some (.int (nI po)), none, none, none, none, none, none, none] [] M := by
  have hacc : Sp l kX3_accepted 64 13 0 0 [.ref 0] M (.inl (some (.int (nI (acN M od rc))))) M := by
    have k := s_accepted hf h.mr h.od8 h.hrc h.rc8
    rwa [ac_nI _ _ h.rc8] at k
  refine e_aload_1 dL_law_197 rfl ?_
  refine e_iload_2 dL_law_198 rfl ?_
  refine e_callS dL_law_199 rfl csL_152 (s_state hf h) rfl rfl ⟨Nat.le_of_ble_eq_true rfl, Nat.le_of_ble_eq_true rfl⟩ ⟨(by show _ ≤ 666358; omega), (by show _ ≤ 7096541; omega)⟩ rfl rfl (Nat.le_of_ble_eq_true rfl) ?_
  refine e_lstore_11 dL_law_202 rfl (Nat.le_of_ble_eq_true rfl) rfl ?_
  refine e_aload_1 dL_law_204 rfl ?_
  refine e_callV dL_law_205 rfl csL_133 hacc rfl rfl ps_0 (by decide) (by decide) ⟨Nat.le_of_ble_eq_true rfl, Nat.le_of_ble_eq_true rfl⟩ ⟨(by show _ ≤ 666358; omega), (by show _ ≤ 7096541; omega)⟩ rfl rfl (Nat.le_of_ble_eq_true rfl) ?_
  refine e_istore_13 dL_law_208 rfl (Nat.le_of_ble_eq_true rfl) rfl ?_
  refine e_iconst (v := nI 0) dL_law_210 rfl ic_0 ?_
  refine e_istore_14 dL_law_211 rfl (Nat.le_of_ble_eq_true rfl) rfl ?_
  exact e_wid (by omega) (by omega) kk
theorem lp_6 {l : Launch} (hf : l.stackTraces = false) {nm : String} {hl : List (Nat × Nat × Nat × Nat)} {b Ln : Nat} {xs : Nat → Int32} (hL : Ln ≤ 260) {M : pmM} {od : Nat → Nat} {oc rc td g : Nat} {rg : Nat → Nat} {H : Nat} (h : IV M od oc rc td g rg H) {e u : Nat} (he : e < 46) (hg : g ≤ e) (hH : H ≤ e) (hu : u + 650 ≤ 666358) {gg hh : Int32} {s ob ru po : Nat} (hs : s < 32) (ho : s ≠ 0 → ob < oc) (hpo : po < rc ∨ rc = 0) (kk : ∀ {N : pmM} {od' : Nat → Nat} {oc' rc' td' g' : Nat} {rg' : Nat → Nat} {H' : Nat} (told : Int32), IV N od' oc' rc' td' g' rg' H' → oc ≤ oc' → (s = 0 → oc < 8 → oc' = oc + 1) → g' ≤ g + 1 → H' ≤ H + 1 → (told < 0 → oc' = oc ∧ svS N od' oc' rc' td' rg' = svS M od oc rc td rg) → Ev l (kLaw nm hl) (gS b Ln xs) room_1 64 (u + 40) (6 * (u + 40)) 921 [some (.ref 1000), some (.ref 0), some (.int (nI oc')), some (.int (nI g')), some (.int (nI e)), none, some (.int hh), none, none, none, none, some (.long (svS M od oc rc td rg)), none, none, some (.int told), none, none, none] [] N) : Ev l (kLaw nm hl) (gS b Ln xs) room_1 64 (u) (6 * (u)) 213 [some (.ref 1000), some (.ref 0), some (.int (nI oc)), some (.int (nI g)), some (.int (nI e)), some (.int gg), some (.int hh), some (.int (nI s)), some (.int (nI ob)), some (.int (nI ru)), some (.int (nI po)), some (.long (svS M od oc rc td rg)), none, some (.int (nI (acN M od rc))), some (.int (nI 0)), none, none, none] [] M := by
  by_cases q : s = 0
  · refine e_iload_7 dL_law_213 rfl ?_
    refine e_if_ne_f dL_law_215 rfl ⟨244, by decide⟩ (by rw [q]; rfl) ?_
    exact ev_addObject hf h (by omega) (by omega) (by omega) kk
  · refine e_iload_7 dL_law_213 rfl ?_
    refine e_if_ne_t (tgt := 244) dL_law_215 (by decide) (nI_ne (by omega) q) ?_
    have q0 := q
    by_cases q : s < 4
    · refine e_iload_7 dL_law_244 rfl ?_
      refine e_iconst (v := nI 4) dL_law_246 rfl ic_4 ?_
      refine e_nc_ge_f dL_law_247 rfl ⟨373, by decide⟩ (by omega) (by omega) q ?_
      exact ev_addRange hf h (by omega) (by omega) (by omega) (ho q0) q0 kk
    · refine e_iload_7 dL_law_244 rfl ?_
      refine e_iconst (v := nI 4) dL_law_246 rfl ic_4 ?_
      refine e_nc_ge_t (tgt := 373) dL_law_247 (by decide) (by omega) (by omega) (by omega) ?_
      by_cases q : s = 4
      · refine e_iload_7 dL_law_373 rfl ?_
        refine e_iconst (v := nI 4) dL_law_375 rfl ic_4 ?_
        refine e_nc_ne_f dL_law_376 rfl ⟨393, by decide⟩ (by omega) (by omega) q ?_
        exact ev_removeRange hf h (by omega) (by omega) (by omega) (ho q0) q0 kk
      · refine e_iload_7 dL_law_373 rfl ?_
        refine e_iconst (v := nI 4) dL_law_375 rfl ic_4 ?_
        refine e_nc_ne_t (tgt := 393) dL_law_376 (by decide) (by omega) (by omega) q ?_
        by_cases q : s < 6
        · refine e_iload_7 dL_law_393 rfl ?_
          refine e_bipush (v := nI 6) dL_law_395 rfl bc_6 ?_
          refine e_nc_ge_f dL_law_397 rfl ⟨442, by decide⟩ (by omega) (by omega) q ?_
          exact ev_member hf h (by omega) (by omega) (by omega) (ho q0) q0 kk
        · refine e_iload_7 dL_law_393 rfl ?_
          refine e_bipush (v := nI 6) dL_law_395 rfl bc_6 ?_
          refine e_nc_ge_t (tgt := 442) dL_law_397 (by decide) (by omega) (by omega) (by omega) ?_
          by_cases q : s < 10
          · refine e_iload_7 dL_law_442 rfl ?_
            refine e_bipush (v := nI 10) dL_law_444 rfl bd_10 ?_
            refine e_nc_ge_f dL_law_446 rfl ⟨546, by decide⟩ (by omega) (by omega) q ?_
            exact ev_addRule hf h (by omega) (by omega) (by omega) q0 kk
          · refine e_iload_7 dL_law_442 rfl ?_
            refine e_bipush (v := nI 10) dL_law_444 rfl bd_10 ?_
            refine e_nc_ge_t (tgt := 546) dL_law_446 (by decide) (by omega) (by omega) (by omega) ?_
            by_cases q : s = 10
            · refine e_iload_7 dL_law_546 rfl ?_
              refine e_bipush (v := nI 10) dL_law_548 rfl bd_10 ?_
              refine e_nc_ne_f dL_law_550 rfl ⟨587, by decide⟩ (by omega) (by omega) q ?_
              exact ev_removeRule hf h (by omega) (by omega) (by omega) q0 kk
            · refine e_iload_7 dL_law_546 rfl ?_
              refine e_bipush (v := nI 10) dL_law_548 rfl bd_10 ?_
              refine e_nc_ne_t (tgt := 587) dL_law_550 (by decide) (by omega) (by omega) q ?_
              by_cases q : s < 13
              · refine e_iload_7 dL_law_587 rfl ?_
                refine e_bipush (v := nI 13) dL_law_589 rfl bd_13 ?_
                refine e_nc_ge_f dL_law_591 rfl ⟨637, by decide⟩ (by omega) (by omega) q ?_
                exact ev_setLastDay hf h (by omega) (by omega) (by omega) q0 kk
              · refine e_iload_7 dL_law_587 rfl ?_
                refine e_bipush (v := nI 13) dL_law_589 rfl bd_13 ?_
                refine e_nc_ge_t (tgt := 637) dL_law_591 (by decide) (by omega) (by omega) (by omega) ?_
                by_cases q : s < 20
                · refine e_iload_7 dL_law_637 rfl ?_
                  refine e_bipush (v := nI 20) dL_law_639 rfl bd_20 ?_
                  refine e_nc_ge_f dL_law_641 rfl ⟨776, by decide⟩ (by omega) (by omega) q ?_
                  exact ev_packet hf h (by omega) (by omega) (by omega) q0 kk
                · refine e_iload_7 dL_law_637 rfl ?_
                  refine e_bipush (v := nI 20) dL_law_639 rfl bd_20 ?_
                  refine e_nc_ge_t (tgt := 776) dL_law_641 (by decide) (by omega) (by omega) (by omega) ?_
                  by_cases q : s < 22
                  · refine e_iload_7 dL_law_776 rfl ?_
                    refine e_bipush (v := nI 22) dL_law_778 rfl bd_22 ?_
                    refine e_nc_ge_f dL_law_780 rfl ⟨802, by decide⟩ (by omega) (by omega) q ?_
                    exact ev_pass hf h (by omega) (by omega) (by omega) q0 kk
                  · refine e_iload_7 dL_law_776 rfl ?_
                    refine e_bipush (v := nI 22) dL_law_778 rfl bd_22 ?_
                    refine e_nc_ge_t (tgt := 802) dL_law_780 (by decide) (by omega) (by omega) (by omega) ?_
                    by_cases q : s < 28
                    · refine e_iload_7 dL_law_802 rfl ?_
                      refine e_bipush (v := nI 28) dL_law_804 rfl bd_28 ?_
                      refine e_nc_ge_f dL_law_806 rfl ⟨892, by decide⟩ (by omega) (by omega) q ?_
                      exact ev_move hf h (by omega) (by omega) (by omega) hpo q0 kk
                    · refine e_iload_7 dL_law_802 rfl ?_
                      refine e_bipush (v := nI 28) dL_law_804 rfl bd_28 ?_
                      refine e_nc_ge_t (tgt := 892) dL_law_806 (by decide) (by omega) (by omega) (by omega) ?_
                      exact ev_sort hf h (by omega) (by omega) (by omega) q0 kk
theorem lp_7 {l : Launch} (hf : l.stackTraces = false) {nm : String} {hl : List (Nat × Nat × Nat × Nat)} {b Ln : Nat} {xs : Nat → Int32} {M : pmM} {od : Nat → Nat} {oc rc td g : Nat} {rg : Nat → Nat} {H : Nat} (h : IV M od oc rc td g rg H) {e u : Nat} {hh told : Int32} {was : Int64} (he : e < 46) (hg : g < 2 ^ 20) (hH : H < 2 ^ 20) (hu : u + 800 ≤ 666358) (ht : told < 0 → svS M od oc rc td rg = was) (kk : ∀ N, IV N od oc rc td g rg H → Ev l (kLaw nm hl) (gS b Ln xs) room_1 64 (u + 800) (6 * (u + 800)) 71 [some (.ref 1000), some (.ref 0), some (.int (nI oc)), some (.int (nI g)), some (.int (nI (e + 1))), none, none, none, none, none, none, none, none, none, none, none, none, none] [] N) : Ev l (kLaw nm hl) (gS b Ln xs) room_1 64 (u) (6 * (u)) 921 [some (.ref 1000), some (.ref 0), some (.int (nI oc)), some (.int (nI g)), some (.int (nI e)), none, some (.int hh), none, none, none, none, some (.long was), none, none, some (.int told), none, none, none] [] M := by
  have kB : Ev l (kLaw nm hl) (gS b Ln xs) room_1 64 (u + 568) (6 * (u + 568)) 937 [some (.ref 1000), some (.ref 0), some (.int (nI oc)), some (.int (nI g)), some (.int (nI e)), none, some (.int hh), none, none, none, none, some (.long was), none, none, some (.int told), none, none, none] [] M := by
    refine e_iload_4 dL_law_937 rfl ?_
    refine e_iconst (v := nI 4) dL_law_939 rfl ic_4 ?_
    refine e_irem dL_law_940 rfl (by decide) ?_
    refine e_topi (nI (e % 4)) (pk_rem (by omega) (by decide) (by decide)) ?_
    refine e_iconst (v := nI 3) dL_law_941 rfl ic_3 ?_
    by_cases q : e % 4 = 3
    · refine e_nc_ne_f dL_law_942 rfl ⟨956, by decide⟩ (by omega) (by omega) q ?_
      refine e_aload_1 dL_law_945 rfl ?_
      refine e_iload_6 dL_law_946 rfl ?_
      refine e_callS dL_law_948 rfl csL_164 (s_sound hf h (by omega) (by omega)) rfl rfl ⟨Nat.le_of_ble_eq_true rfl, Nat.le_of_ble_eq_true rfl⟩ ⟨(by show _ ≤ 666358; omega), (by show _ ≤ 7096541; omega)⟩ rfl rfl (Nat.le_of_ble_eq_true rfl) ?_
      refine e_if_ne_t (tgt := 956) dL_law_951 (by decide) (by decide) ?_
      refine e_iinc_4 (v := nI (e + 1)) dL_law_956 rfl (Nat.le_of_ble_eq_true rfl) rfl (nI_1 e) ?_
      refine e_goto (tgt := 71) dL_law_959 (by decide) ?_
      refine e_weak (weak_c (weak_c (weak_c (weak_c (weak_c (weak_c (weak_n (weak_c (weak_c (weak_c (weak_c (weak_n (weak_c (weak_c (weak_n weak_nil))))))))))))))) ?_
      exact e_wid (by omega) (by omega) (kk _ (h.sx (nn_sx od rc M rc)))
    · refine e_nc_ne_t (tgt := 956) dL_law_942 (by decide) (by omega) (by omega) q ?_
      refine e_iinc_4 (v := nI (e + 1)) dL_law_956 rfl (Nat.le_of_ble_eq_true rfl) rfl (nI_1 e) ?_
      refine e_goto (tgt := 71) dL_law_959 (by decide) ?_
      refine e_weak (weak_c (weak_c (weak_c (weak_c (weak_c (weak_c (weak_n (weak_c (weak_c (weak_c (weak_c (weak_n (weak_c (weak_c (weak_n weak_nil))))))))))))))) ?_
      exact e_wid (by omega) (by omega) (kk _ h)
  refine e_iload_14 dL_law_921 rfl ?_
  by_cases q : told < 0
  · have hq := ht q
    refine e_if_ge_f dL_law_923 rfl ⟨937, by decide⟩ (fun z => Int32.lt_irrefl (Int32.lt_of_lt_of_le q z)) ?_
    refine e_aload_1 dL_law_926 rfl ?_
    refine e_iload_2 dL_law_927 rfl ?_
    refine e_callS dL_law_928 rfl csL_152 (s_state hf h) rfl rfl ⟨Nat.le_of_ble_eq_true rfl, Nat.le_of_ble_eq_true rfl⟩ ⟨(by show _ ≤ 666358; omega), (by show _ ≤ 7096541; omega)⟩ rfl rfl (Nat.le_of_ble_eq_true rfl) ?_
    refine e_lload_11 dL_law_931 rfl ?_
    refine e_lcmp dL_law_933 rfl ?_
    refine e_topi (nI 0) (by rw [hq]; exact lg_cmp_self _) ?_
    refine e_if_ne_f dL_law_934 rfl ⟨954, by decide⟩ rfl ?_
    exact e_wid (by omega) (by omega) kB
  · refine e_if_ge_t (tgt := 937) dL_law_923 (by decide) (Int32.not_lt.mp q) ?_
    exact e_wid (by omega) (by omega) kB
theorem lw_one {l : Launch} (hf : l.stackTraces = false) {nm : String} {hl : List (Nat × Nat × Nat × Nat)} {b Ln : Nat} {xs : Nat → Int32} (hL : Ln ≤ 260) {M : pmM} {od : Nat → Nat} {oc rc td g : Nat} {rg : Nat → Nat} {H : Nat} (h : IV M od oc rc td g rg H) {e u : Nat} (he : e < 46) (hg : g ≤ e) (hH : H ≤ e) (hu : u + 1500 ≤ 666358) (h1 : e ≤ 3 → oc = e) (h2 : 3 ≤ e → 3 ≤ oc) (kk : ∀ {N : pmM} {od' : Nat → Nat} {oc' rc' td' g' : Nat} {rg' : Nat → Nat} {H' : Nat}, IV N od' oc' rc' td' g' rg' H' → g' ≤ e + 1 → H' ≤ e + 1 → (e + 1 ≤ 3 → oc' = e + 1) → (3 ≤ e + 1 → 3 ≤ oc') → Ev l (kLaw nm hl) (gS b Ln xs) room_1 64 (u + 1500) (6 * (u + 1500)) 71 [some (.ref 1000), some (.ref 0), some (.int (nI oc')), some (.int (nI g')), some (.int (nI (e + 1))), none, none, none, none, none, none, none, none, none, none, none, none, none] [] N) : Ev l (kLaw nm hl) (gS b Ln xs) room_1 64 (u) (6 * (u)) 71 [some (.ref 1000), some (.ref 0), some (.int (nI oc)), some (.int (nI g)), some (.int (nI e)), none, none, none, none, none, none, none, none, none, none, none, none, none] [] M := by
  refine lp_1 hf hL h he hg hH hu (fun gg hh s hs hs0 => ?_)
  refine lp_2 hf hL h he hg hH hu (fun ob hob => ?_)
  refine lp_3 hf hL h he hg hH hu (fun ru => ?_)
  refine lp_4 hf hL h he hg hH hu (fun po hpo => ?_)
  refine lp_5 hf hL h he hg hH hu ?_
  refine lp_6 hf hL h he hg hH (by omega) hs (fun z => hob (by have : ¬ e < 3 := fun w => z (hs0 w); have := h2 (by omega); omega)) hpo (fun {N1 od1 oc1 rc1 td1 g1 rg1 H1} told hN q1 q2 q3 q4 q5 => ?_)
  refine lp_7 hf hN he (by omega) (by omega) (by omega) (fun z => (q5 z).2) (fun N hN2 => ?_)
  have k1 : e + 1 ≤ 3 → oc1 = e + 1 := fun z => by
    have e3 := h1 (by omega)
    rw [q2 (hs0 (by omega)) (by omega), e3]
  have k2 : 3 ≤ e + 1 → 3 ≤ oc1 := fun z => by
    by_cases z3 : e < 3
    · have e3 := h1 (by omega)
      have := q2 (hs0 z3) (by omega)
      omega
    · have := h2 (by omega)
      omega
  have k := kk hN2 (show g1 ≤ e + 1 by omega) (show H1 ≤ e + 1 by omega) k1 k2
  exact e_wid (u' := u + 1500) (w' := 6 * (u + 1500)) (by omega) (Nat.mul_le_mul_left 6 (by omega)) k
theorem lw_end {l : Launch} (hf : l.stackTraces = false) {nm : String} {hl : List (Nat × Nat × Nat × Nat)} {b Ln : Nat} {xs : Nat → Int32} (hL : Ln ≤ 260) {M : pmM} {od : Nat → Nat} {oc rc td g : Nat} {rg : Nat → Nat} {H : Nat} (h : IV M od oc rc td g rg H) {u : Nat} (hg : g ≤ 46) (hH : H ≤ 46) (hu : u + 300 ≤ 666358) : Ev l (kLaw nm hl) (gS b Ln xs) room_1 64 (u) (6 * (u)) 71 [some (.ref 1000), some (.ref 0), some (.int (nI oc)), some (.int (nI g)), some (.int (nI 46)), none, none, none, none, none, none, none, none, none, none, none, none, none] [] M := by
  have h' := h.sx (nn_sx od rc M rc)
  have h8 := h.oc8
  have hr8 := h.rc8
  have x1 : ¬ vp_in (nI rc) rc := fun z => z (Or.inr (by rw [nI_clamp (show rc < 2 ^ 31 by omega)]; exact Nat.le_refl _))
  have x2 : ¬ vp_in (nI oc) oc := fun z => z (Or.inr (by rw [nI_clamp (show oc < 2 ^ 31 by omega)]; exact Nat.le_refl _))
  refine e_iload_4 dL_law_71 rfl ?_
  refine e_bipush (v := nI 46) dL_law_73 rfl bd_46 ?_
  refine e_nc_ge_t (tgt := 962) dL_law_75 (by decide) (by omega) (by omega) (Nat.le_refl 46) ?_
  refine e_aload_1 dL_law_962 rfl ?_
  refine e_aload_0 dL_law_963 rfl ?_
  refine e_bipush (v := nI 100) dL_law_964 rfl bc_100 ?_
  refine e_callD (gS_sc b Ln xs) dL_law_966 rfl csL_148 (s_cell hf hL (show 100 < 2 ^ 31 by decide)) rfl rfl ⟨Nat.le_of_ble_eq_true rfl, Nat.le_of_ble_eq_true rfl⟩ ⟨(by show _ ≤ 666358; omega), (by show _ ≤ 7096541; omega)⟩ rfl rfl (Nat.le_of_ble_eq_true rfl) ?_
  refine e_callS dL_law_969 rfl csL_164 (s_sound hf h (by omega) (by omega)) rfl rfl ⟨Nat.le_of_ble_eq_true rfl, Nat.le_of_ble_eq_true rfl⟩ ⟨(by show _ ≤ 666358; omega), (by show _ ≤ 7096541; omega)⟩ rfl rfl (Nat.le_of_ble_eq_true rfl) ?_
  refine e_if_eq_f dL_law_972 rfl ⟨1009, by decide⟩ (by decide) ?_
  refine e_aload_1 dL_law_975 rfl ?_
  refine e_bipush (v := nI 10) dL_law_976 rfl bd_10 ?_
  refine e_aload_1 dL_law_978 rfl ?_
  refine e_callV dL_law_979 rfl csL_123 (s_rules hf h'.hrc hr8) rfl rfl ps_0 (by decide) (by decide) ⟨Nat.le_of_ble_eq_true rfl, Nat.le_of_ble_eq_true rfl⟩ ⟨(by show _ ≤ 666358; omega), (by show _ ≤ 7096541; omega)⟩ rfl rfl (Nat.le_of_ble_eq_true rfl) ?_
  refine e_iconst (v := nI 0) dL_law_982 rfl ic_0 ?_
  refine e_iconst (v := nI 0) dL_law_983 rfl ic_0 ?_
  refine e_callW dL_law_984 rfl csL_117 (k_ruleAt_no hf h' x1) rfl rfl ⟨Nat.le_of_ble_eq_true rfl, Nat.le_of_ble_eq_true rfl⟩ ⟨(by show _ ≤ 666358; omega), (by show _ ≤ 7096541; omega)⟩ rfl rfl (Nat.le_of_ble_eq_true rfl) ?_
  refine e_bipush (v := -101) dL_law_987 rfl bc_m101 ?_
  refine e_ic_ne_f dL_law_989 rfl ⟨1009, by decide⟩ (by decide) ?_
  refine e_aload_1 dL_law_992 rfl ?_
  refine e_iconst (v := nI 3) dL_law_993 rfl ic_3 ?_
  refine e_iload_2 dL_law_994 rfl ?_
  refine e_iconst (v := nI 0) dL_law_995 rfl ic_0 ?_
  refine e_iconst (v := nI 0) dL_law_996 rfl ic_0 ?_
  refine e_callW dL_law_997 rfl csL_117 (k_addMember_no1 hf h' x2) rfl rfl ⟨Nat.le_of_ble_eq_true rfl, Nat.le_of_ble_eq_true rfl⟩ ⟨(by show _ ≤ 666358; omega), (by show _ ≤ 7096541; omega)⟩ rfl rfl (Nat.le_of_ble_eq_true rfl) ?_
  refine e_bipush (v := -101) dL_law_1000 rfl bc_m101 ?_
  refine e_ic_ne_f dL_law_1002 rfl ⟨1009, by decide⟩ (by decide) ?_
  refine e_iconst (v := nI 1) dL_law_1005 rfl ic_1 ?_
  refine e_goto (tgt := 1010) dL_law_1006 (by decide) ?_
  exact e_lret dL_law_1010 (by omega) (by omega)
theorem lw_loop {l : Launch} (hf : l.stackTraces = false) {nm : String} {hl : List (Nat × Nat × Nat × Nat)} {b Ln : Nat} {xs : Nat → Int32} (hL : Ln ≤ 260) : ∀ (r e : Nat), e + r = 46 → ∀ {M : pmM} {od : Nat → Nat} {oc rc td g : Nat} {rg : Nat → Nat} {H : Nat}, IV M od oc rc td g rg H → g ≤ e → H ≤ e → (e ≤ 3 → oc = e) → (3 ≤ e → 3 ≤ oc) → Ev l (kLaw nm hl) (gS b Ln xs) room_1 64 (1000 + 1500 * e) (6 * (1000 + 1500 * e)) 71 [some (.ref 1000), some (.ref 0), some (.int (nI oc)), some (.int (nI g)), some (.int (nI e)), none, none, none, none, none, none, none, none, none, none, none, none, none] [] M
  | 0, e, he, M, od, oc, rc, td, g, rg, H, h, hg, hH, h1, h2 => by
    obtain rfl : e = 46 := by omega
    exact lw_end hf hL h hg hH (by omega)
  | r + 1, e, he, M, od, oc, rc, td, g, rg, H, h, hg, hH, h1, h2 => by
    refine lw_one hf hL h (by omega) hg hH (by omega) h1 h2 (fun {N od' oc' rc' td' g' rg' H'} hN q1 q2 q3 q4 => ?_)
    exact e_wid (by omega) (by omega) (lw_loop hf hL r (e + 1) (by omega) hN q1 q2 q3 q4)
