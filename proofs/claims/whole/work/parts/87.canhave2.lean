/-! canHave agrees -/
theorem X7_canHave_W3 (f : FN) {m : Nat} {TRS : Nat → Nat → Nat} {ro : Nat → Option Nat} {wd : Nat → Nat} {Q : Nat → SMK} (hS : HSt (f 104) m TRS ro wd) (hR : ∀ k, k < m → HR (f 104) k (Q k)) {kd cl cell n : Nat} (hkd : kd < 7) (hcl : cl < 24) (hce : cell < 36) (hn : n ≤ 12) : ∃ g, W_X7_canHave_3 [.ref 103, .int (nI kd), .int (nI cl), .int (nI cell), .int (nI n), .int 0, .int 0] (memOf f) = some (.inl ([.ref 103, .int (nI kd), .int (nI cl), .int (nI cell), .int (nI n), .int (orI m (chV TRS wd Q kd cl cell n)), .int (nI m)], memOf g)) ∧ (∀ x, x ≠ 103 → x ≠ 104 → x ≠ 108 → x ≠ 109 → g x = f x) ∧ (∀ y, y ≠ 9 → g 103 y = f 103 y) ∧ ∀ y, 735 ≤ y → g 104 y = f 104 y := by
  have m8 := hS.1.2
  have hwd : WD wd := fun c hc => (hS.2.2.2 c hc).2
  have key := while_rel (b := WB_X7_canHave_3) (s := WS_X7_canHave_3) (fun k => [.ref 103, .int (nI kd), .int (nI cl), .int (nI cell), .int (nI n), .int (orI k (chV TRS wd Q kd cl cell n)), .int (nI k)]) (fun k g => (∀ x, x ≠ 103 → x ≠ 104 → x ≠ 108 → x ≠ 109 → g x = f x) ∧ (∀ y, y ≠ 9 → g 103 y = f 103 y) ∧ ∀ y, ¬ (119 ≤ y ∧ y < 125) → (∀ k', k' < k → ¬ inCh k' y) → g 104 y = f 104 y) m (by unfold FU; omega) (fun k g hk hI => ?_) (fun k g hk hI => ?_) (fun g hI => ?_) (f := f) ⟨fun _ _ _ _ _ => rfl, fun _ _ => rfl, fun _ _ _ => rfl⟩
  · obtain ⟨g, W, I1, I2, I3⟩ := key
    exact ⟨g, W, I1, I2, fun y hy => I3 y (by omega) (fun k hk => by unfold inCh; omega)⟩
  · have e1 : g 104 1 = nI m := by rw [hI.2.2 1 (by omega) (fun k hk => by unfold inCh; omega)]; exact hS.1.1
    have e : nI k < nI m := (nI_lt_iff (by omega) (by omega)).mpr hk
    simp [WB_X7_canHave_3, m_den, l0, Value.category, s_seq, s_if, s_st, s_ret, s_retz, s_retv, s_skip, s_sc, s_inc, s_call, e_c, e_li, e_lr, e_lj, e_un, e_bin, e_if, e_b, b_not, b_and, b_or, b_of, e_call, a_recv, a_snoc, a_nil, prI, prJ, prR, e_gi, e_gr, e_ai, e_ar, s_as, s_aop, s_pf, s_pfz, s_fop, l_set, l_ok, e_div, e_rem, e_len, s_tab, g_103_0, rd_104_1, e1, e]
  · obtain ⟨I1, I2, I3⟩ := hI
    have k8 : k < 8 := by omega
    have hSg : HSt (g 104) m TRS ro wd := hS.sig (fun y h1 h2 => I3 y (by omega) (fun k hk => by unfold inCh; omega))
    obtain ⟨ht, hb⟩ := hSg.2.1 k hk
    have k0 : TRS k 0 < 7 := by have := hb 0 (by omega); simp only [lim] at this; omega
    have un := X7_isUnder g k8 k0 hkd (ht 0 (by omega))
    by_cases cu : und 3 (some (TRS k 0)) kd = true
    · obtain ⟨g1, A1, A2, A3, A4⟩ := X7_canHave_W1 g k8 (nI kd) (nI cl) (nI cell) (nI n) (orI k (chV TRS wd Q kd cl cell n))
      have hRk : HR (g 104) k (Q k) := (hR k hk).sig (fun y hy => I3 y (by unfold inCh at hy; omega) (fun k' hk' => inCh_dis k8 (by omega) (by omega) hy))
      have hS1 : HSt (g1 104) m TRS ro wd := hSg.sig (fun y h1 h2 => A3 y (by omega))
      obtain ⟨g2, B1, B2, B3, B4, B5⟩ := X7_canHave_W2 g1 (q := Q k) k8 hcl hn ⟨A4, fun c hc => by rw [A3 _ (by omega)]; exact hRk.2.1 c hc, by rw [A3 _ (by omega)]; exact hRk.2.2.1, by rw [A3 _ (by omega)]; exact hRk.2.2.2.1, by rw [A3 _ (by omega)]; exact hRk.2.2.2.2⟩ (hS1.2.1 k hk).1 hb hS1.2.2.1 hS1.2.2.2 (nI kd) (nI cell) (orI k (chV TRS wd Q kd cl cell n))
      have r := rd_104 g2 (show 125 + 36 * k + cell < 735 by omega)
      rw [B5 cell hce] at r
      have q := nI_lt_iff (a := 0) (b := (rA (TRS k) wd cl (Q k) n).1 cell) (by omega) (by have := rA_le hb hwd cl (Q k) n cell hce; omega)
      refine ⟨g2, ?_, fun x c1 c2 c3 c4 => by rw [B2 x c1 c2 c3 c4, A2 x c2]; exact I1 x c1 c2 c3 c4, fun y hy => by rw [B3 y hy, A2 103 (by omega)]; exact I2 y hy, fun y c1 c2 => ?_⟩
      · by_cases c0 : 0 < (rA (TRS k) wd cl (Q k) n).1 cell
        · have e : 0 < nI ((rA (TRS k) wd cl (Q k) n).1 cell) := q.mpr c0
          have ev : chV TRS wd Q kd cl cell n k = (1 : Int32) <<< (nI k &&& 31) := by unfold chV; rw [if_pos cu, if_pos c0]
          simp [WS_X7_canHave_3, m_den, l0, Value.category, s_seq, s_if, s_st, s_ret, s_retz, s_retv, s_skip, s_sc, s_inc, s_call, e_c, e_li, e_lr, e_lj, e_un, e_bin, e_if, e_b, b_not, b_and, b_or, b_of, e_call, a_recv, a_snoc, a_nil, prI, prJ, prR, e_gi, e_gr, e_ai, e_ar, s_as, s_aop, s_pf, s_pfz, s_fop, l_set, l_ok, e_div, e_rem, e_len, s_tab, rc_103, un, cu, A1, B1, g_103_0, i125, r, e, orI, ev, nI_next]
        · have e : ¬ 0 < nI ((rA (TRS k) wd cl (Q k) n).1 cell) := fun z => c0 (q.mp z)
          have ev : chV TRS wd Q kd cl cell n k = 0 := by unfold chV; rw [if_pos cu, if_neg c0]
          simp [WS_X7_canHave_3, m_den, l0, Value.category, s_seq, s_if, s_st, s_ret, s_retz, s_retv, s_skip, s_sc, s_inc, s_call, e_c, e_li, e_lr, e_lj, e_un, e_bin, e_if, e_b, b_not, b_and, b_or, b_of, e_call, a_recv, a_snoc, a_nil, prI, prJ, prR, e_gi, e_gr, e_ai, e_ar, s_as, s_aop, s_pf, s_pfz, s_fop, l_set, l_ok, e_div, e_rem, e_len, s_tab, rc_103, un, cu, A1, B1, g_103_0, i125, r, e, orI, ev, nI_next]
      · have ck := c2 k (by omega)
        rw [B4 y c1 ck, A3 y (by unfold inCh at ck; omega)]
        exact I3 y c1 (fun k' hk' => c2 k' (by omega))
    · have ev : chV TRS wd Q kd cl cell n k = 0 := by unfold chV; rw [if_neg cu]
      refine ⟨g, ?_, I1, I2, fun y c1 c2 => I3 y c1 (fun k' hk' => c2 k' (by omega))⟩
      simp [WS_X7_canHave_3, m_den, l0, Value.category, s_seq, s_if, s_st, s_ret, s_retz, s_retv, s_skip, s_sc, s_inc, s_call, e_c, e_li, e_lr, e_lj, e_un, e_bin, e_if, e_b, b_not, b_and, b_or, b_of, e_call, a_recv, a_snoc, a_nil, prI, prJ, prR, e_gi, e_gr, e_ai, e_ar, s_as, s_aop, s_pf, s_pfz, s_fop, l_set, l_ok, e_div, e_rem, e_len, s_tab, rc_103, un, cu, orI, ev, nI_next]
  · have e1 : g 104 1 = nI m := by rw [hI.2.2 1 (by omega) (fun k hk => by unfold inCh; omega)]; exact hS.1.1
    have e : ¬ nI m < nI m := Int32.lt_irrefl
    simp [WB_X7_canHave_3, m_den, l0, Value.category, s_seq, s_if, s_st, s_ret, s_retz, s_retv, s_skip, s_sc, s_inc, s_call, e_c, e_li, e_lr, e_lj, e_un, e_bin, e_if, e_b, b_not, b_and, b_or, b_of, e_call, a_recv, a_snoc, a_nil, prI, prJ, prR, e_gi, e_gr, e_ai, e_ar, s_as, s_aop, s_pf, s_pfz, s_fop, l_set, l_ok, e_div, e_rem, e_len, s_tab, g_103_0, rd_104_1, e1, e]
theorem X6_canHave_no0 (f : FN) {a b c d : Int32} (h : ¬ (0 ≤ a ∧ a ≤ 6 ∧ 0 ≤ b ∧ b ≤ 23 ∧ 0 ≤ c ∧ c ≤ 35 ∧ 1 ≤ d ∧ d ≤ 12)) : D_X6_canHave [.ref 0, .int a, .int b, .int c, .int d] (memOf f) = some (.int (-1000001), memOf (row f 81 (upd (f 81) 0 (f 81 0 + 1)))) := by
  by_cases h1 : 0 ≤ a
  · by_cases h2 : a ≤ 6
    · by_cases h3 : 0 ≤ b
      · by_cases h4 : b ≤ 23
        · by_cases h5 : 0 ≤ c
          · by_cases h6 : c ≤ 35
            · by_cases h7 : 1 ≤ d
              · have h8 : ¬ (d ≤ 12) := fun q => h ⟨h1, h2, h3, h4, h5, h6, h7, q⟩
                simp [D_X6_canHave, S_X6_canHave, m_den, l0, Value.category, s_seq, s_if, s_st, s_ret, s_retz, s_retv, s_skip, s_sc, s_inc, s_call, e_c, e_li, e_lr, e_lj, e_un, e_bin, e_if, e_b, b_not, b_and, b_or, b_of, e_call, a_recv, a_snoc, a_nil, prI, prJ, prR, e_gi, e_gr, e_ai, e_ar, s_as, s_aop, s_pf, s_pfz, s_fop, l_set, l_ok, e_div, e_rem, e_len, s_tab, X6_isKind, X6_isIn, X6_isCell, rc_0, X6_fin_0, h1, h2, h3, h4, h5, h6, h7, h8]
              · simp [D_X6_canHave, S_X6_canHave, m_den, l0, Value.category, s_seq, s_if, s_st, s_ret, s_retz, s_retv, s_skip, s_sc, s_inc, s_call, e_c, e_li, e_lr, e_lj, e_un, e_bin, e_if, e_b, b_not, b_and, b_or, b_of, e_call, a_recv, a_snoc, a_nil, prI, prJ, prR, e_gi, e_gr, e_ai, e_ar, s_as, s_aop, s_pf, s_pfz, s_fop, l_set, l_ok, e_div, e_rem, e_len, s_tab, X6_isKind, X6_isIn, X6_isCell, rc_0, X6_fin_0, h1, h2, h3, h4, h5, h6, h7]
            · simp [D_X6_canHave, S_X6_canHave, m_den, l0, Value.category, s_seq, s_if, s_st, s_ret, s_retz, s_retv, s_skip, s_sc, s_inc, s_call, e_c, e_li, e_lr, e_lj, e_un, e_bin, e_if, e_b, b_not, b_and, b_or, b_of, e_call, a_recv, a_snoc, a_nil, prI, prJ, prR, e_gi, e_gr, e_ai, e_ar, s_as, s_aop, s_pf, s_pfz, s_fop, l_set, l_ok, e_div, e_rem, e_len, s_tab, X6_isKind, X6_isIn, X6_isCell, rc_0, X6_fin_0, h1, h2, h3, h4, h5, h6]
          · simp [D_X6_canHave, S_X6_canHave, m_den, l0, Value.category, s_seq, s_if, s_st, s_ret, s_retz, s_retv, s_skip, s_sc, s_inc, s_call, e_c, e_li, e_lr, e_lj, e_un, e_bin, e_if, e_b, b_not, b_and, b_or, b_of, e_call, a_recv, a_snoc, a_nil, prI, prJ, prR, e_gi, e_gr, e_ai, e_ar, s_as, s_aop, s_pf, s_pfz, s_fop, l_set, l_ok, e_div, e_rem, e_len, s_tab, X6_isKind, X6_isIn, X6_isCell, rc_0, X6_fin_0, h1, h2, h3, h4, h5]
        · simp [D_X6_canHave, S_X6_canHave, m_den, l0, Value.category, s_seq, s_if, s_st, s_ret, s_retz, s_retv, s_skip, s_sc, s_inc, s_call, e_c, e_li, e_lr, e_lj, e_un, e_bin, e_if, e_b, b_not, b_and, b_or, b_of, e_call, a_recv, a_snoc, a_nil, prI, prJ, prR, e_gi, e_gr, e_ai, e_ar, s_as, s_aop, s_pf, s_pfz, s_fop, l_set, l_ok, e_div, e_rem, e_len, s_tab, X6_isKind, X6_isIn, X6_isCell, rc_0, X6_fin_0, h1, h2, h3, h4]
      · simp [D_X6_canHave, S_X6_canHave, m_den, l0, Value.category, s_seq, s_if, s_st, s_ret, s_retz, s_retv, s_skip, s_sc, s_inc, s_call, e_c, e_li, e_lr, e_lj, e_un, e_bin, e_if, e_b, b_not, b_and, b_or, b_of, e_call, a_recv, a_snoc, a_nil, prI, prJ, prR, e_gi, e_gr, e_ai, e_ar, s_as, s_aop, s_pf, s_pfz, s_fop, l_set, l_ok, e_div, e_rem, e_len, s_tab, X6_isKind, X6_isIn, X6_isCell, rc_0, X6_fin_0, h1, h2, h3]
    · simp [D_X6_canHave, S_X6_canHave, m_den, l0, Value.category, s_seq, s_if, s_st, s_ret, s_retz, s_retv, s_skip, s_sc, s_inc, s_call, e_c, e_li, e_lr, e_lj, e_un, e_bin, e_if, e_b, b_not, b_and, b_or, b_of, e_call, a_recv, a_snoc, a_nil, prI, prJ, prR, e_gi, e_gr, e_ai, e_ar, s_as, s_aop, s_pf, s_pfz, s_fop, l_set, l_ok, e_div, e_rem, e_len, s_tab, X6_isKind, X6_isIn, X6_isCell, rc_0, X6_fin_0, h1, h2]
  · simp [D_X6_canHave, S_X6_canHave, m_den, l0, Value.category, s_seq, s_if, s_st, s_ret, s_retz, s_retv, s_skip, s_sc, s_inc, s_call, e_c, e_li, e_lr, e_lj, e_un, e_bin, e_if, e_b, b_not, b_and, b_or, b_of, e_call, a_recv, a_snoc, a_nil, prI, prJ, prR, e_gi, e_gr, e_ai, e_ar, s_as, s_aop, s_pf, s_pfz, s_fop, l_set, l_ok, e_div, e_rem, e_len, s_tab, X6_isKind, X6_isIn, X6_isCell, rc_0, X6_fin_0, h1]
theorem X7_canHave_no0 (f : FN) {a b c d : Int32} (h : ¬ (0 ≤ a ∧ a ≤ 6 ∧ 0 ≤ b ∧ b ≤ 23 ∧ 0 ≤ c ∧ c ≤ 35 ∧ 1 ≤ d ∧ d ≤ 12)) : D_X7_canHave [.ref 103, .int a, .int b, .int c, .int d] (memOf f) = some (.int (-1000001), memOf (row f 107 (upd (f 107) 0 (f 107 0 + 1)))) := by
  by_cases h1 : 0 ≤ a
  · by_cases h2 : a ≤ 6
    · by_cases h3 : 0 ≤ b
      · by_cases h4 : b ≤ 23
        · by_cases h5 : 0 ≤ c
          · by_cases h6 : c ≤ 35
            · by_cases h7 : 1 ≤ d
              · have h8 : ¬ (d ≤ 12) := fun q => h ⟨h1, h2, h3, h4, h5, h6, h7, q⟩
                simp [D_X7_canHave, S_X7_canHave, m_den, l0, Value.category, s_seq, s_if, s_st, s_ret, s_retz, s_retv, s_skip, s_sc, s_inc, s_call, e_c, e_li, e_lr, e_lj, e_un, e_bin, e_if, e_b, b_not, b_and, b_or, b_of, e_call, a_recv, a_snoc, a_nil, prI, prJ, prR, e_gi, e_gr, e_ai, e_ar, s_as, s_aop, s_pf, s_pfz, s_fop, l_set, l_ok, e_div, e_rem, e_len, s_tab, X7_in, X7_isClock, X7_isCell, j_le_6, j_ge_0, j_le_12, j_ge_1, rc_103, X7_fin_0, h1, h2, h3, h4, h5, h6, h7, h8]
              · simp [D_X7_canHave, S_X7_canHave, m_den, l0, Value.category, s_seq, s_if, s_st, s_ret, s_retz, s_retv, s_skip, s_sc, s_inc, s_call, e_c, e_li, e_lr, e_lj, e_un, e_bin, e_if, e_b, b_not, b_and, b_or, b_of, e_call, a_recv, a_snoc, a_nil, prI, prJ, prR, e_gi, e_gr, e_ai, e_ar, s_as, s_aop, s_pf, s_pfz, s_fop, l_set, l_ok, e_div, e_rem, e_len, s_tab, X7_in, X7_isClock, X7_isCell, j_le_6, j_ge_0, j_le_12, j_ge_1, rc_103, X7_fin_0, h1, h2, h3, h4, h5, h6, h7]
            · simp [D_X7_canHave, S_X7_canHave, m_den, l0, Value.category, s_seq, s_if, s_st, s_ret, s_retz, s_retv, s_skip, s_sc, s_inc, s_call, e_c, e_li, e_lr, e_lj, e_un, e_bin, e_if, e_b, b_not, b_and, b_or, b_of, e_call, a_recv, a_snoc, a_nil, prI, prJ, prR, e_gi, e_gr, e_ai, e_ar, s_as, s_aop, s_pf, s_pfz, s_fop, l_set, l_ok, e_div, e_rem, e_len, s_tab, X7_in, X7_isClock, X7_isCell, j_le_6, j_ge_0, j_le_12, j_ge_1, rc_103, X7_fin_0, h1, h2, h3, h4, h5, h6]
          · simp [D_X7_canHave, S_X7_canHave, m_den, l0, Value.category, s_seq, s_if, s_st, s_ret, s_retz, s_retv, s_skip, s_sc, s_inc, s_call, e_c, e_li, e_lr, e_lj, e_un, e_bin, e_if, e_b, b_not, b_and, b_or, b_of, e_call, a_recv, a_snoc, a_nil, prI, prJ, prR, e_gi, e_gr, e_ai, e_ar, s_as, s_aop, s_pf, s_pfz, s_fop, l_set, l_ok, e_div, e_rem, e_len, s_tab, X7_in, X7_isClock, X7_isCell, j_le_6, j_ge_0, j_le_12, j_ge_1, rc_103, X7_fin_0, h1, h2, h3, h4, h5]
        · simp [D_X7_canHave, S_X7_canHave, m_den, l0, Value.category, s_seq, s_if, s_st, s_ret, s_retz, s_retv, s_skip, s_sc, s_inc, s_call, e_c, e_li, e_lr, e_lj, e_un, e_bin, e_if, e_b, b_not, b_and, b_or, b_of, e_call, a_recv, a_snoc, a_nil, prI, prJ, prR, e_gi, e_gr, e_ai, e_ar, s_as, s_aop, s_pf, s_pfz, s_fop, l_set, l_ok, e_div, e_rem, e_len, s_tab, X7_in, X7_isClock, X7_isCell, j_le_6, j_ge_0, j_le_12, j_ge_1, rc_103, X7_fin_0, h1, h2, h3, h4]
      · simp [D_X7_canHave, S_X7_canHave, m_den, l0, Value.category, s_seq, s_if, s_st, s_ret, s_retz, s_retv, s_skip, s_sc, s_inc, s_call, e_c, e_li, e_lr, e_lj, e_un, e_bin, e_if, e_b, b_not, b_and, b_or, b_of, e_call, a_recv, a_snoc, a_nil, prI, prJ, prR, e_gi, e_gr, e_ai, e_ar, s_as, s_aop, s_pf, s_pfz, s_fop, l_set, l_ok, e_div, e_rem, e_len, s_tab, X7_in, X7_isClock, X7_isCell, j_le_6, j_ge_0, j_le_12, j_ge_1, rc_103, X7_fin_0, h1, h2, h3]
    · simp [D_X7_canHave, S_X7_canHave, m_den, l0, Value.category, s_seq, s_if, s_st, s_ret, s_retz, s_retv, s_skip, s_sc, s_inc, s_call, e_c, e_li, e_lr, e_lj, e_un, e_bin, e_if, e_b, b_not, b_and, b_or, b_of, e_call, a_recv, a_snoc, a_nil, prI, prJ, prR, e_gi, e_gr, e_ai, e_ar, s_as, s_aop, s_pf, s_pfz, s_fop, l_set, l_ok, e_div, e_rem, e_len, s_tab, X7_in, X7_isClock, X7_isCell, j_le_6, j_ge_0, j_le_12, j_ge_1, rc_103, X7_fin_0, h1, h2]
  · simp [D_X7_canHave, S_X7_canHave, m_den, l0, Value.category, s_seq, s_if, s_st, s_ret, s_retz, s_retv, s_skip, s_sc, s_inc, s_call, e_c, e_li, e_lr, e_lj, e_un, e_bin, e_if, e_b, b_not, b_and, b_or, b_of, e_call, a_recv, a_snoc, a_nil, prI, prJ, prR, e_gi, e_gr, e_ai, e_ar, s_as, s_aop, s_pf, s_pfz, s_fop, l_set, l_ok, e_div, e_rem, e_len, s_tab, X7_in, X7_isClock, X7_isCell, j_le_6, j_ge_0, j_le_12, j_ge_1, rc_103, X7_fin_0, h1]
theorem agr_canHave {f : FN} (h : REL f) (a b c d : Int32) : AGR D_X6_canHave D_X7_canHave [.int a, .int b, .int c, .int d] f := by
  obtain ⟨⟨m, hT, hV⟩, -⟩ := id h
  obtain ⟨TRS, ro, wd, Q, bo, hh, w⟩ := TW.ex hT hV
  obtain ⟨⟨b1, b2, b3, b4⟩, hS, sp, ro', wd', bk', tk, bn⟩ := id w
  by_cases hc : 0 ≤ a ∧ a ≤ 6 ∧ 0 ≤ b ∧ b ≤ 23 ∧ 0 ≤ c ∧ c ≤ 35 ∧ 1 ≤ d ∧ d ≤ 12
  · obtain ⟨c1, c2, c3, c4, c5, c6, c7, c8⟩ := hc
    obtain ⟨kd, hkd, rfl⟩ := in_ex (n := 6) ⟨c1, c2⟩ (by omega)
    obtain ⟨cl, hcl, rfl⟩ := in_ex (n := 23) ⟨c3, c4⟩ (by omega)
    obtain ⟨ce, hce, rfl⟩ := in_ex (n := 35) ⟨c5, c6⟩ (by omega)
    obtain ⟨n, hn, rfl⟩ := in_ex (n := 12) ⟨Int32.le_trans (by decide) c7, c8⟩ (by omega)
    obtain ⟨g1, A1, A2⟩ := X6_canHave_W f w (kd := kd) (cl := cl) (cell := ce) (n := n) (by omega) (by omega) (by omega) (by omega)
    have e104 := A2 104 (by omega)
    obtain ⟨p1, U1, U2, U3⟩ := X7_puts g1
    have p104 : p1 104 = f 104 := by rw [U2 104 (by omega), e104]
    obtain ⟨p2, C1, C2, C3, C4⟩ := X7_canHave_W3 p1 (m := m) (TRS := TRS) (ro := ro) (wd := wd) (Q := Q) (by rw [p104]; exact hS) (fun k hk => by rw [p104]; exact (sp k hk).1) (kd := kd) (cl := cl) (cell := ce) (n := n) (by omega) (by omega) (by omega) (by omega)
    obtain ⟨p3, B1, B2, B3, B4⟩ := X7_putsBack p2
    have p34 : p3 104 = f 104 := by
      funext y
      by_cases q : y < 735
      · rw [B3 y q, C2 106 (by omega) (by omega) (by omega) (by omega), U3 y q, e104]
      · rw [B4 y (by omega), C4 y (by omega), p104]
    refine ⟨orI m (chV TRS wd Q kd cl ce n), g1, p3, ?_, ?_, ?_⟩
    · simp [D_X6_canHave, S_X6_canHave, m_den, l0, Value.category, s_seq, s_if, s_st, s_ret, s_retz, s_retv, s_skip, s_sc, s_inc, s_call, e_c, e_li, e_lr, e_lj, e_un, e_bin, e_if, e_b, b_not, b_and, b_or, b_of, e_call, a_recv, a_snoc, a_nil, prI, prJ, prR, e_gi, e_gr, e_ai, e_ar, s_as, s_aop, s_pf, s_pfz, s_fop, l_set, l_ok, e_div, e_rem, e_len, s_tab, X6_isKind, X6_isIn, X6_isCell, c1, c2, c3, c4, c5, c6, c7, c8, A1]
    · simp [D_X7_canHave, S_X7_canHave, m_den, l0, Value.category, s_seq, s_if, s_st, s_ret, s_retz, s_retv, s_skip, s_sc, s_inc, s_call, e_c, e_li, e_lr, e_lj, e_un, e_bin, e_if, e_b, b_not, b_and, b_or, b_of, e_call, a_recv, a_snoc, a_nil, prI, prJ, prR, e_gi, e_gr, e_ai, e_ar, s_as, s_aop, s_pf, s_pfz, s_fop, l_set, l_ok, e_div, e_rem, e_len, s_tab, X7_in, X7_isClock, X7_isCell, j_le_6, j_ge_0, j_le_12, j_ge_1, c1, c2, c3, c4, c5, c6, c7, c8, rc_103, U1, C1, B1]
    · refine h.trial (fun x d1 d2 d3 d4 d5 d6 d7 => ?_) (fun y hy => ?_)
      · by_cases q : x = 104
        · subst q; exact p34
        · rw [B2 x q, C2 x d2 q d4 d5, U2 x d3, A2 x (by omega)]
      · rw [B2 103 (by omega), C3 y (by omega), U2 103 (by omega), A2 103 (by omega)]
  · exact agr_find h (X6_canHave_no0 f hc) (fun g _ => X7_canHave_no0 g hc)
/-! judge -/
theorem while_relc {b : DE Bool} {s : SD} (L : Nat → List Value) (I J : Nat → FN → Prop) (E : FN → Prop) (N : Nat) (hN : N < FU) (hb : ∀ i f, i < N → I i f → ∃ g, b (L i) (memOf f) = some (true, memOf g) ∧ J i g) (hs : ∀ i f, i < N → J i f → ∃ g, s (L i) (memOf f) = some (.inl (L (i + 1), memOf g)) ∧ I (i + 1) g) (he : ∀ f, I N f → ∃ g, b (L N) (memOf f) = some (false, memOf g) ∧ E g) {f : FN} (h0 : I 0 f) : ∃ g, s_while b s FU (L 0) (memOf f) = some (.inl (L N, memOf g)) ∧ E g := by
  have key : ∀ k i n f, i + k = N → k < n → I i f → ∃ g, s_while b s n (L i) (memOf f) = some (.inl (L N, memOf g)) ∧ E g := by
    intro k
    induction k with
    | zero =>
      intro i n f h1 h2 h3
      have e : i = N := by omega
      subst e
      obtain ⟨m, rfl⟩ : ∃ m, n = m + 1 := ⟨n - 1, by omega⟩
      obtain ⟨g, h4, h5⟩ := he f h3
      exact ⟨g, while_end h4, h5⟩
    | succ k ih =>
      intro i n f h1 h2 h3
      obtain ⟨m, rfl⟩ : ∃ m, n = m + 1 := ⟨n - 1, by omega⟩
      obtain ⟨g1, h4, h5⟩ := hb i f (by omega) h3
      obtain ⟨g, h6, h7⟩ := hs i g1 (by omega) h5
      rw [while_step h4 h6]
      exact ih (i + 1) m g (by omega) (by omega) h7
  exact key N 0 FU f (by omega) hN h0
theorem X6_playByHour (f : FN) {m : Nat} {TRS : Nat → Nat → Nat} {ro : Nat → Option Nat} {wd : Nat → Nat} {Q : Nat → SMK} {bo : Nat → Int} {h : Nat} (w : TW f m TRS ro wd Q bo h) {n : Nat} (hn : n ≤ 40) (hN : h + n ≤ 9999) : ∃ g, D_X6_playByHour [.ref 0, .int (nI n)] (memOf f) = some (.null, memOf g) ∧ (∀ x, ¬ (82 ≤ x ∧ x ≤ 89) → x ≠ 93 → g x = f x) ∧ ∀ i, i < n → g 93 i = nI (csI m (fun k => nS TRS wd h Q i k)) := by
  have m8 := w.2.1.1.2
  have hAl := w.A_le
  have F0 := J7_fill f sh_93 (by omega) 0
  obtain ⟨f0, h0⟩ : ∃ f0, f0 = row f 93 (fil 40 0 (f 93)) := ⟨_, rfl⟩
  rw [← h0] at F0
  obtain ⟨f1, T1, T2, T3⟩ := X3_begin f0
  have key := while_rel (b := WB_X6_playByHour_2) (s := WS_X6_playByHour_2) (fun c => [.ref 0, .int (nI n), .int (nI c)]) (fun c g => (∀ x, ¬ (82 ≤ x ∧ x ≤ 89) → x ≠ 93 → g x = f x) ∧ (∃ t, HT g t) ∧ ∀ i, i < n → g 93 i = nI (csI c (fun k => nS TRS wd h Q i k))) m (by unfold FU; omega) (fun c g hc hI => ?_) (fun c g hc hI => ?_) (fun g hI => ?_) (f := f1) ⟨fun x h1 h2 => by rw [T3 x (by omega), h0, row_ne _ _ h2], ⟨_, T2⟩, fun i hi => by rw [T3 93 (by omega), h0, row_self, fil_in _ _ (by omega)]; rfl⟩
  · obtain ⟨g, W, I1, -, I3⟩ := key
    refine ⟨g, ?_, I1, I3⟩
    have W' : W_X6_playByHour_2 [.ref 0, .int (nI n), .int 0] (memOf f1) = some (.inl ([.ref 0, .int (nI n), .int (nI m)], memOf g)) := W
    simp [D_X6_playByHour, S_X6_playByHour, m_den, l0, Value.category, s_seq, s_if, s_st, s_ret, s_retz, s_retv, s_skip, s_sc, s_inc, s_call, e_c, e_li, e_lr, e_lj, e_un, e_bin, e_if, e_b, b_not, b_and, b_or, b_of, e_call, a_recv, a_snoc, a_nil, prI, prJ, prR, e_gi, e_gr, e_ai, e_ar, s_as, s_aop, s_pf, s_pfz, s_fop, l_set, l_ok, e_div, e_rem, e_len, s_tab, g_0_11, F0, g_0_7, rc_86, T1, W']
  · have e1 : g 1 2 = nI m := by rw [hI.1 1 (by omega) (by omega)]; exact w.1.2.2.2
    have e : nI c < nI m := (nI_lt_iff (by omega) (by omega)).mpr hc
    simp [WB_X6_playByHour_2, m_den, l0, Value.category, s_seq, s_if, s_st, s_ret, s_retz, s_retv, s_skip, s_sc, s_inc, s_call, e_c, e_li, e_lr, e_lj, e_un, e_bin, e_if, e_b, b_not, b_and, b_or, b_of, e_call, a_recv, a_snoc, a_nil, prI, prJ, prR, e_gi, e_gr, e_ai, e_ar, s_as, s_aop, s_pf, s_pfz, s_fop, l_set, l_ok, e_div, e_rem, e_len, s_tab, g_0_0, g_1_2, e1, e]
  · obtain ⟨I1, ⟨t, I2⟩, I3⟩ := hI
    have wg := w.congr (g := g) (fun j hj => I1 j (by omega) (by omega)) (I1 104 (by omega) (by omega))
    obtain ⟨g1, U1, U2, U3, U4⟩ := trial_take g wg.2.2.1 hc m8
    have hb := (w.2.1.2.1 c hc).2
    have key1 := while_rel (b := WB_X6_playByHour_1) (s := WS_X6_playByHour_1) (fun i => [.ref 0, .int (nI n), .int (nI c), .int (nI i)]) (fun i g' => (∀ x, ¬ (82 ≤ x ∧ x ≤ 89) → x ≠ 93 → g' x = f x) ∧ (∃ t, HT g' t) ∧ HC g' 82 (rn TRS wd h Q i c) ∧ HTr g' 82 (TRS c) ∧ ∀ j, j < n → g' 93 j = nI (csI (if j < i then c + 1 else c) (fun k => nS TRS wd h Q j k))) n (by unfold FU; omega) (fun i g' hi hI => ?_) (fun i g' hi hI => ?_) (fun g' hI => ?_) (f := g1) ⟨fun x h1 h2 => by rw [U4 x (by omega)]; exact I1 x h1 h2, ⟨t, I2.congr (fun j h1 h2 => U4 j (by omega))⟩, U2, U3, fun j hj => by rw [U4 93 (by omega), if_neg (by omega)]; exact I3 j hj⟩
    · obtain ⟨g2, W, J1, J2, J3, J4, J5⟩ := key1
      refine ⟨g2, ?_, J1, J2, fun j hj => by rw [J5 j hj, if_pos hj]⟩
      have W' : W_X6_playByHour_1 [.ref 0, .int (nI n), .int (nI c), .int 0] (memOf g1) = some (.inl ([.ref 0, .int (nI n), .int (nI c), .int (nI n)], memOf g2)) := W
      simp [WS_X6_playByHour_2, m_den, l0, Value.category, s_seq, s_if, s_st, s_ret, s_retz, s_retv, s_skip, s_sc, s_inc, s_call, e_c, e_li, e_lr, e_lj, e_un, e_bin, e_if, e_b, b_not, b_and, b_or, b_of, e_call, a_recv, a_snoc, a_nil, prI, prJ, prR, e_gi, e_gr, e_ai, e_ar, s_as, s_aop, s_pf, s_pfz, s_fop, l_set, l_ok, e_div, e_rem, e_len, s_tab, g_0_6, g_0_0, g_1_7, rr_6 g (show c < 8 by omega), rc_82, U1, W', nI_next]
    · have e : nI i < nI n := (nI_lt_iff (by omega) (by omega)).mpr hi
      simp [WB_X6_playByHour_1, m_den, l0, Value.category, s_seq, s_if, s_st, s_ret, s_retz, s_retv, s_skip, s_sc, s_inc, s_call, e_c, e_li, e_lr, e_lj, e_un, e_bin, e_if, e_b, b_not, b_and, b_or, b_of, e_call, a_recv, a_snoc, a_nil, prI, prJ, prR, e_gi, e_gr, e_ai, e_ar, s_as, s_aop, s_pf, s_pfz, s_fop, l_set, l_ok, e_div, e_rem, e_len, s_tab, e]
    · obtain ⟨J1, ⟨t', J2⟩, J3, J4, J5⟩ := hI
      have wg' := w.congr (g := g') (fun j hj => J1 j (by omega) (by omega)) (J1 104 (by omega) (by omega))
      obtain ⟨g2, P1, P2, P3, P4⟩ := X5_playHours g' (n0 := i) (n := 1) (q := Q c) isCh_82 (by omega) wg'.1.1 J3 J4 hb wg'.2.2.2.1 wg'.2.2.2.2.1 J2 (hAl c hc) (by omega)
      have s1 := P3.1
      rw [tlR_eq] at s1
      have s2 : g2 86 0 = nI (t'.1 + nS TRS wd h Q i c) := by
        rw [s1]
        simp only [csI, Nat.zero_add, Nat.add_zero]
        rfl
      have r93 : gm_rd (memOf g2) 93 (nI i) = some (nI (csI c (fun k => nS TRS wd h Q i k))) := by
        rw [rd_93 g2 (show i < 40 by omega), P4 93 (by omega) (by omega) (by omega) (by omega), J5 i hi, if_neg (by omega)]
      have ed : nI (t'.1 + nS TRS wd h Q i c) - nI t'.1 = nI (nS TRS wd h Q i c) := by rw [nI_s (by omega), Nat.add_sub_cancel_left]
      refine ⟨row g2 93 (upd (g2 93) i (nI (csI c (fun k => nS TRS wd h Q i k)) + nI (nS TRS wd h Q i c))), ?_, fun x h1 h2 => by rw [row_ne _ _ h2, P4 x (by omega) (by omega) (by omega) (by omega)]; exact J1 x h1 h2, ⟨_, P3.congr (fun j h1 h2 => row_ne _ _ (by omega))⟩, P2.congr (fun j h1 h2 _ => row_ne _ _ (by omega)), J4.congr (by rw [row_ne _ _ (by omega), P4 83 (by omega) (by omega) (by omega) (by omega)]), fun j hj => ?_⟩
      · have o1 : nI 1 = 1 := rfl
        rw [o1] at P1
        simp [WS_X6_playByHour_1, m_den, l0, Value.category, s_seq, s_if, s_st, s_ret, s_retz, s_retv, s_skip, s_sc, s_inc, s_call, e_c, e_li, e_lr, e_lj, e_un, e_bin, e_if, e_b, b_not, b_and, b_or, b_of, e_call, a_recv, a_snoc, a_nil, prI, prJ, prR, e_gi, e_gr, e_ai, e_ar, s_as, s_aop, s_pf, s_pfz, s_fop, l_set, l_ok, e_div, e_rem, e_len, s_tab, g_0_7, g_86_0, J2.1, g_0_0, g_0_6, rc_1, P1, g_0_11, r93, s2, ed, wr_93 g2 (show i < 40 by omega), nI_next]
      · rw [row_self]
        by_cases e : j = i
        · subst e; rw [upd_self, if_pos (by omega), nI_a]; rfl
        · have h1 : (j < i + 1) = (j < i) := by apply propext; omega
          rw [upd_ne _ _ e, P4 93 (by omega) (by omega) (by omega) (by omega), J5 j hj]
          simp only [h1]
    · have e : ¬ nI n < nI n := Int32.lt_irrefl
      simp [WB_X6_playByHour_1, m_den, l0, Value.category, s_seq, s_if, s_st, s_ret, s_retz, s_retv, s_skip, s_sc, s_inc, s_call, e_c, e_li, e_lr, e_lj, e_un, e_bin, e_if, e_b, b_not, b_and, b_or, b_of, e_call, a_recv, a_snoc, a_nil, prI, prJ, prR, e_gi, e_gr, e_ai, e_ar, s_as, s_aop, s_pf, s_pfz, s_fop, l_set, l_ok, e_div, e_rem, e_len, s_tab, e]
  · have e1 : g 1 2 = nI m := by rw [hI.1 1 (by omega) (by omega)]; exact w.1.2.2.2
    have e : ¬ nI m < nI m := Int32.lt_irrefl
    simp [WB_X6_playByHour_2, m_den, l0, Value.category, s_seq, s_if, s_st, s_ret, s_retz, s_retv, s_skip, s_sc, s_inc, s_call, e_c, e_li, e_lr, e_lj, e_un, e_bin, e_if, e_b, b_not, b_and, b_or, b_of, e_call, a_recv, a_snoc, a_nil, prI, prJ, prR, e_gi, e_gr, e_ai, e_ar, s_as, s_aop, s_pf, s_pfz, s_fop, l_set, l_ok, e_div, e_rem, e_len, s_tab, g_0_0, g_1_2, e1, e]
