/-! of, change -/
theorem TV.its {σ : Nat → Int32} {m k : Nat} (h : TV σ m) (hk : k < m) : ∀ j, j < 7 → ∃ v, v ≤ lim j ∧ σ (63 + 7 * k + j) = nI v := h.2.2.2.2 k hk
theorem X6_of_t (f : FN) {n w m : Nat} (hn : n < m) (hm : m ≤ 8) (hw : w < 7) (em : f 1 2 = nI m) : D_X6_of [.ref 0, .int (nI n), .int (nI w)] (memOf f) = some (.int (f (chId 1 n + 1) w), memOf f) := by
  have h8 : n < 8 := by omega
  have hC := isCh_town (b := 1) (Or.inl rfl) h8
  have a1 : (0 : Int32) ≤ nI n := nI_pos' (by omega)
  have a2 := chi_le hn hm
  have a3 : (0 : Int32) ≤ nI w := nI_pos' (by omega)
  have a4 : nI w ≤ (9 : Int32) := le_lit (n := 9) (by omega) (by omega)
  have a5 : nI w < (7 : Int32) := lt_lit (n := 7) hw (by omega)
  simp [D_X6_of, S_X6_of, m_den, l0, Value.category, s_seq, s_if, s_st, s_ret, s_retz, s_retv, s_skip, s_sc, s_inc, s_call, e_c, e_li, e_lr, e_lj, e_un, e_bin, e_if, e_b, b_not, b_and, b_or, b_of, e_call, a_recv, a_snoc, a_nil, prI, prJ, prR, e_gi, e_gr, e_ai, e_ar, s_as, s_aop, s_pf, s_pfz, s_fop, l_set, l_ok, e_div, e_rem, e_len, s_tab, rc_0, X6_isIn, X6_isChimney, em, a1, a2, a3, a4, a5, g_0_0, g_1_7, rr_6 f h8, gch0 f hC, rdt f hC hw]
theorem X7_of_t (f : FN) {n w m : Nat} (hn : n < m) (hm : m ≤ 8) (hw : w < 7) (em : f 104 1 = nI m) : D_X7_of [.ref 103, .int (nI n), .int (nI w)] (memOf f) = some (.int (f 104 (63 + 7 * n + w)), memOf f) := by
  have h8 : n < 8 := by omega
  have a1 : (0 : Int32) ≤ nI n := nI_pos' (by omega)
  have a2 := chi_le hn hm
  have a3 : (0 : Int32) ≤ nI w := nI_pos' (by omega)
  have a4 : nI w ≤ (9 : Int32) := le_lit (n := 9) (by omega) (by omega)
  have a5 : nI w < (7 : Int32) := lt_lit (n := 7) hw (by omega)
  simp [D_X7_of, S_X7_of, m_den, l0, Value.category, s_seq, s_if, s_st, s_ret, s_retz, s_retv, s_skip, s_sc, s_inc, s_call, e_c, e_li, e_lr, e_lj, e_un, e_bin, e_if, e_b, b_not, b_and, b_or, b_of, e_call, a_recv, a_snoc, a_nil, prI, prJ, prR, e_gi, e_gr, e_ai, e_ar, s_as, s_aop, s_pf, s_pfz, s_fop, l_set, l_ok, e_div, e_rem, e_len, s_tab, rc_103, X7_in, X7_isChimney, j_le_9, j_ge_0, em, a1, a2, a3, a4, a5, X7_its f h8 hw]
theorem of_ex {w : Int32} (h : 0 ≤ w ∧ w ≤ 9) : (∃ j, j < 7 ∧ w = nI j) ∨ w = 7 ∨ w = 8 ∨ w = 9 := by
  obtain ⟨j, hj, rfl⟩ := in_ex (n := 9) h (by omega)
  by_cases h7 : j < 7
  · exact Or.inl ⟨j, h7, rfl⟩
  · right
    have : j = 7 ∨ j = 8 ∨ j = 9 := by omega
    rcases this with rfl | rfl | rfl
    · exact Or.inl rfl
    · exact Or.inr (Or.inl rfl)
    · exact Or.inr (Or.inr rfl)
theorem agr_of {f : FN} (h : REL f) (c w : Int32) : AGR D_X6_of D_X7_of [.int c, .int w] f := by
  obtain ⟨⟨m, hT, hV⟩, -⟩ := id h
  have em : f 1 2 = nI m := hT.1.2.2.2.1
  have em' : f 104 1 = nI m := hT.1.2.1.trans em
  have hm := hT.1.2.2.2.2
  by_cases hc : 0 ≤ c ∧ c ≤ nI m - 1 ∧ 0 ≤ w ∧ w ≤ 9
  · obtain ⟨n, hn, rfl⟩ := chi_ex ⟨hc.1, hc.2.1⟩ hm
    have h8 : n < 8 := by omega
    have hC := isCh_town (b := 1) (Or.inl rfl) h8
    obtain ⟨c1, -⟩ := hT.2.2.2.2.2.1 n hn
    have a1 := hc.1
    have a2 := hc.2.1
    have I := hV.its hn
    obtain ⟨kd, hkd, e0⟩ := I 0 (by omega)
    obtain ⟨hi, hhi, e3⟩ := I 3 (by omega)
    obtain ⟨fr, -, e4⟩ := I 4 (by omega)
    obtain ⟨fi, hfi, e5⟩ := I 5 (by omega)
    obtain ⟨lo, hlo, e6⟩ := I 6 (by omega)
    simp only [lim] at hkd hhi hfi hlo
    have x0 : f (chId 1 n + 1) 0 = nI kd := (c1 0 (by omega)).symm.trans e0
    have x3 : f (chId 1 n + 1) 3 = nI hi := (c1 3 (by omega)).symm.trans e3
    have x4 : f (chId 1 n + 1) 4 = nI fr := (c1 4 (by omega)).symm.trans e4
    have x5 : f (chId 1 n + 1) 5 = nI fi := (c1 5 (by omega)).symm.trans e5
    have x6 : f (chId 1 n + 1) 6 = nI lo := (c1 6 (by omega)).symm.trans e6
    rw [Nat.add_zero] at e0
    rcases of_ex hc.2.2 with ⟨j, hj, rfl⟩ | rfl | rfl | rfl
    · refine ⟨f (chId 1 n + 1) j, f, f, X6_of_t f hn hm hj em, ?_, h⟩
      rw [X7_of_t f hn hm hj em', c1 j hj]
    · refine ⟨worthN kd, f, f, ?_, ?_, h⟩
      · simp [D_X6_of, S_X6_of, m_den, l0, Value.category, s_seq, s_if, s_st, s_ret, s_retz, s_retv, s_skip, s_sc, s_inc, s_call, e_c, e_li, e_lr, e_lj, e_un, e_bin, e_if, e_b, b_not, b_and, b_or, b_of, e_call, a_recv, a_snoc, a_nil, prI, prJ, prR, e_gi, e_gr, e_ai, e_ar, s_as, s_aop, s_pf, s_pfz, s_fop, l_set, l_ok, e_div, e_rem, e_len, s_tab, rc_0, X6_isIn, X6_isChimney, em, a1, a2, g_0_0, g_1_7, rr_6 f h8, rcch f hC, X0_worth f hC (by omega) x0]
      · simp [D_X7_of, S_X7_of, m_den, l0, Value.category, s_seq, s_if, s_st, s_ret, s_retz, s_retv, s_skip, s_sc, s_inc, s_call, e_c, e_li, e_lr, e_lj, e_un, e_bin, e_if, e_b, b_not, b_and, b_or, b_of, e_call, a_recv, a_snoc, a_nil, prI, prJ, prR, e_gi, e_gr, e_ai, e_ar, s_as, s_aop, s_pf, s_pfz, s_fop, l_set, l_ok, e_div, e_rem, e_len, s_tab, rc_103, X7_in, X7_isChimney, j_le_9, j_ge_0, em', a1, a2, X7_worth f h8 (by omega) e0]
    · refine ⟨sootyN kd hi, f, f, ?_, ?_, h⟩
      · simp [D_X6_of, S_X6_of, m_den, l0, Value.category, s_seq, s_if, s_st, s_ret, s_retz, s_retv, s_skip, s_sc, s_inc, s_call, e_c, e_li, e_lr, e_lj, e_un, e_bin, e_if, e_b, b_not, b_and, b_or, b_of, e_call, a_recv, a_snoc, a_nil, prI, prJ, prR, e_gi, e_gr, e_ai, e_ar, s_as, s_aop, s_pf, s_pfz, s_fop, l_set, l_ok, e_div, e_rem, e_len, s_tab, rc_0, X6_isIn, X6_isChimney, em, a1, a2, g_0_0, g_1_7, rr_6 f h8, rcch f hC, X0_sooty f hC (by omega) x0 x3]
      · simp [D_X7_of, S_X7_of, m_den, l0, Value.category, s_seq, s_if, s_st, s_ret, s_retz, s_retv, s_skip, s_sc, s_inc, s_call, e_c, e_li, e_lr, e_lj, e_un, e_bin, e_if, e_b, b_not, b_and, b_or, b_of, e_call, a_recv, a_snoc, a_nil, prI, prJ, prR, e_gi, e_gr, e_ai, e_ar, s_as, s_aop, s_pf, s_pfz, s_fop, l_set, l_ok, e_div, e_rem, e_len, s_tab, rc_103, X7_in, X7_isChimney, j_le_9, j_ge_0, em', a1, a2, X7_sooty f h8 (by omega) (by omega) e0 e3]
    · obtain ⟨⟨hh, b1, b2, -⟩, -⟩ := id hV
      have b3 : f 1 0 = nI hh := hT.1.1.symm.trans b2
      have r := rem24 (a := hh) (by omega)
      have hcl : hh % 24 < 24 := Nat.mod_lt _ (by omega)
      refine ⟨burnsN kd fr fi lo (hh % 24), f, f, ?_, ?_, h⟩
      · cases q : litN fi lo (hh % 24) <;> simp [D_X6_of, S_X6_of, m_den, l0, Value.category, s_seq, s_if, s_st, s_ret, s_retz, s_retv, s_skip, s_sc, s_inc, s_call, e_c, e_li, e_lr, e_lj, e_un, e_bin, e_if, e_b, b_not, b_and, b_or, b_of, e_call, a_recv, a_snoc, a_nil, prI, prJ, prR, e_gi, e_gr, e_ai, e_ar, s_as, s_aop, s_pf, s_pfz, s_fop, l_set, l_ok, e_div, e_rem, e_len, s_tab, rc_0, X6_isIn, X6_isChimney, em, a1, a2, g_0_0, g_1_0, g_1_7, b3, r, rr_6 f h8, rcch f hC, X0_isLitAt f hC (by omega) hlo hcl x5 x6, X0_burnsAt f hC (by omega) hcl x0 x4, q, burnsN]
      · simp [D_X7_of, S_X7_of, m_den, l0, Value.category, s_seq, s_if, s_st, s_ret, s_retz, s_retv, s_skip, s_sc, s_inc, s_call, e_c, e_li, e_lr, e_lj, e_un, e_bin, e_if, e_b, b_not, b_and, b_or, b_of, e_call, a_recv, a_snoc, a_nil, prI, prJ, prR, e_gi, e_gr, e_ai, e_ar, s_as, s_aop, s_pf, s_pfz, s_fop, l_set, l_ok, e_div, e_rem, e_len, s_tab, rc_103, X7_in, X7_isChimney, j_le_9, j_ge_0, em', a1, a2, g_103_0, rd_104_0, b2, r, X7_burns f h8 (by omega) (by omega) hlo hcl e0 e4 e5 e6]
  · exact agr_find h (X6_of_no0 f (by rw [em]; exact hc)) (fun g hg => X7_of_no0 g (by rw [hg.1, em']; exact hc))
/-! change -/
theorem rd_lim (M : GM) {j : Nat} (hj : j < 7) : gm_rd M (SPB + 0) (nI j) = some (nI (lim j)) := by
  match j, hj with
  | 0, _ => exact rd_st _ rfl rfl (by omega)
  | 1, _ => exact rd_st _ rfl rfl (by omega)
  | 2, _ => exact rd_st _ rfl rfl (by omega)
  | 3, _ => exact rd_st _ rfl rfl (by omega)
  | 4, _ => exact rd_st _ rfl rfl (by omega)
  | 5, _ => exact rd_st _ rfl rfl (by omega)
  | 6, _ => exact rd_st _ rfl rfl (by omega)
  | k + 7, hk => exact absurd hk (by omega)
theorem X7_mostOf (M : GM) {j : Nat} (hj : j < 7) : D_X7_mostOf [.int (nI j)] M = some (.int (nI (lim j)), M) := by
  match j, hj with
  | 0, _ => simp [D_X7_mostOf, S_X7_mostOf, m_den, l0, Value.category, s_seq, s_if, s_st, s_ret, s_retz, s_retv, s_skip, s_sc, s_inc, s_call, e_c, e_li, e_lr, e_lj, e_un, e_bin, e_if, e_b, b_not, b_and, b_or, b_of, e_call, a_recv, a_snoc, a_nil, prI, prJ, prR, e_gi, e_gr, e_ai, e_ar, s_as, s_aop, s_pf, s_pfz, s_fop, l_set, l_ok, e_div, e_rem, e_len, s_tab, lim, show nI 0 = 0 from rfl]; rfl
  | 1, _ => simp [D_X7_mostOf, S_X7_mostOf, m_den, l0, Value.category, s_seq, s_if, s_st, s_ret, s_retz, s_retv, s_skip, s_sc, s_inc, s_call, e_c, e_li, e_lr, e_lj, e_un, e_bin, e_if, e_b, b_not, b_and, b_or, b_of, e_call, a_recv, a_snoc, a_nil, prI, prJ, prR, e_gi, e_gr, e_ai, e_ar, s_as, s_aop, s_pf, s_pfz, s_fop, l_set, l_ok, e_div, e_rem, e_len, s_tab, lim, show nI 1 = 1 from rfl]; rfl
  | 2, _ => simp [D_X7_mostOf, S_X7_mostOf, m_den, l0, Value.category, s_seq, s_if, s_st, s_ret, s_retz, s_retv, s_skip, s_sc, s_inc, s_call, e_c, e_li, e_lr, e_lj, e_un, e_bin, e_if, e_b, b_not, b_and, b_or, b_of, e_call, a_recv, a_snoc, a_nil, prI, prJ, prR, e_gi, e_gr, e_ai, e_ar, s_as, s_aop, s_pf, s_pfz, s_fop, l_set, l_ok, e_div, e_rem, e_len, s_tab, lim, show nI 2 = 2 from rfl]; rfl
  | 3, _ => simp [D_X7_mostOf, S_X7_mostOf, m_den, l0, Value.category, s_seq, s_if, s_st, s_ret, s_retz, s_retv, s_skip, s_sc, s_inc, s_call, e_c, e_li, e_lr, e_lj, e_un, e_bin, e_if, e_b, b_not, b_and, b_or, b_of, e_call, a_recv, a_snoc, a_nil, prI, prJ, prR, e_gi, e_gr, e_ai, e_ar, s_as, s_aop, s_pf, s_pfz, s_fop, l_set, l_ok, e_div, e_rem, e_len, s_tab, lim, show nI 3 = 3 from rfl]; rfl
  | 4, _ => simp [D_X7_mostOf, S_X7_mostOf, m_den, l0, Value.category, s_seq, s_if, s_st, s_ret, s_retz, s_retv, s_skip, s_sc, s_inc, s_call, e_c, e_li, e_lr, e_lj, e_un, e_bin, e_if, e_b, b_not, b_and, b_or, b_of, e_call, a_recv, a_snoc, a_nil, prI, prJ, prR, e_gi, e_gr, e_ai, e_ar, s_as, s_aop, s_pf, s_pfz, s_fop, l_set, l_ok, e_div, e_rem, e_len, s_tab, lim, show nI 4 = 4 from rfl]; rfl
  | 5, _ => simp [D_X7_mostOf, S_X7_mostOf, m_den, l0, Value.category, s_seq, s_if, s_st, s_ret, s_retz, s_retv, s_skip, s_sc, s_inc, s_call, e_c, e_li, e_lr, e_lj, e_un, e_bin, e_if, e_b, b_not, b_and, b_or, b_of, e_call, a_recv, a_snoc, a_nil, prI, prJ, prR, e_gi, e_gr, e_ai, e_ar, s_as, s_aop, s_pf, s_pfz, s_fop, l_set, l_ok, e_div, e_rem, e_len, s_tab, lim, show nI 5 = 5 from rfl]; rfl
  | 6, _ => simp [D_X7_mostOf, S_X7_mostOf, m_den, l0, Value.category, s_seq, s_if, s_st, s_ret, s_retz, s_retv, s_skip, s_sc, s_inc, s_call, e_c, e_li, e_lr, e_lj, e_un, e_bin, e_if, e_b, b_not, b_and, b_or, b_of, e_call, a_recv, a_snoc, a_nil, prI, prJ, prR, e_gi, e_gr, e_ai, e_ar, s_as, s_aop, s_pf, s_pfz, s_fop, l_set, l_ok, e_div, e_rem, e_len, s_tab, lim, show nI 6 = 6 from rfl]; rfl
  | k + 7, hk => exact absurd hk (by omega)
theorem X6_change_no0 (f : FN) {c w v : Int32} (h : ¬ (0 ≤ c ∧ c ≤ f 1 2 - 1 ∧ 0 ≤ w ∧ w ≤ 6)) : D_X6_change [.ref 0, .int c, .int w, .int v] (memOf f) = some (.int (-1000001), memOf (row f 81 (upd (f 81) 0 (f 81 0 + 1)))) := by
  by_cases h1 : 0 ≤ c
  · by_cases h2 : c ≤ f 1 2 - 1
    · by_cases h3 : 0 ≤ w
      · have h4 : ¬ (w ≤ 6) := fun q => h ⟨h1, h2, h3, q⟩
        simp [D_X6_change, S_X6_change, m_den, l0, Value.category, s_seq, s_if, s_st, s_ret, s_retz, s_retv, s_skip, s_sc, s_inc, s_call, e_c, e_li, e_lr, e_lj, e_un, e_bin, e_if, e_b, b_not, b_and, b_or, b_of, e_call, a_recv, a_snoc, a_nil, prI, prJ, prR, e_gi, e_gr, e_ai, e_ar, s_as, s_aop, s_pf, s_pfz, s_fop, l_set, l_ok, e_div, e_rem, e_len, s_tab, X6_isIn, X6_isChimney, rc_0, X6_fin_0, h1, h2, h3, h4]
      · simp [D_X6_change, S_X6_change, m_den, l0, Value.category, s_seq, s_if, s_st, s_ret, s_retz, s_retv, s_skip, s_sc, s_inc, s_call, e_c, e_li, e_lr, e_lj, e_un, e_bin, e_if, e_b, b_not, b_and, b_or, b_of, e_call, a_recv, a_snoc, a_nil, prI, prJ, prR, e_gi, e_gr, e_ai, e_ar, s_as, s_aop, s_pf, s_pfz, s_fop, l_set, l_ok, e_div, e_rem, e_len, s_tab, X6_isIn, X6_isChimney, rc_0, X6_fin_0, h1, h2, h3]
    · simp [D_X6_change, S_X6_change, m_den, l0, Value.category, s_seq, s_if, s_st, s_ret, s_retz, s_retv, s_skip, s_sc, s_inc, s_call, e_c, e_li, e_lr, e_lj, e_un, e_bin, e_if, e_b, b_not, b_and, b_or, b_of, e_call, a_recv, a_snoc, a_nil, prI, prJ, prR, e_gi, e_gr, e_ai, e_ar, s_as, s_aop, s_pf, s_pfz, s_fop, l_set, l_ok, e_div, e_rem, e_len, s_tab, X6_isIn, X6_isChimney, rc_0, X6_fin_0, h1, h2]
  · simp [D_X6_change, S_X6_change, m_den, l0, Value.category, s_seq, s_if, s_st, s_ret, s_retz, s_retv, s_skip, s_sc, s_inc, s_call, e_c, e_li, e_lr, e_lj, e_un, e_bin, e_if, e_b, b_not, b_and, b_or, b_of, e_call, a_recv, a_snoc, a_nil, prI, prJ, prR, e_gi, e_gr, e_ai, e_ar, s_as, s_aop, s_pf, s_pfz, s_fop, l_set, l_ok, e_div, e_rem, e_len, s_tab, X6_isIn, X6_isChimney, rc_0, X6_fin_0, h1]
theorem X7_change_no0 (f : FN) {c w v : Int32} (h : ¬ (0 ≤ c ∧ c ≤ f 104 1 - 1 ∧ 0 ≤ w ∧ w ≤ 6)) : D_X7_change [.ref 103, .int c, .int w, .int v] (memOf f) = some (.int (-1000001), memOf (row f 107 (upd (f 107) 0 (f 107 0 + 1)))) := by
  by_cases h1 : 0 ≤ c
  · by_cases h2 : c ≤ f 104 1 - 1
    · by_cases h3 : 0 ≤ w
      · have h4 : ¬ (w ≤ 6) := fun q => h ⟨h1, h2, h3, q⟩
        simp [D_X7_change, S_X7_change, m_den, l0, Value.category, s_seq, s_if, s_st, s_ret, s_retz, s_retv, s_skip, s_sc, s_inc, s_call, e_c, e_li, e_lr, e_lj, e_un, e_bin, e_if, e_b, b_not, b_and, b_or, b_of, e_call, a_recv, a_snoc, a_nil, prI, prJ, prR, e_gi, e_gr, e_ai, e_ar, s_as, s_aop, s_pf, s_pfz, s_fop, l_set, l_ok, e_div, e_rem, e_len, s_tab, X7_in, X7_isChimney, j_le_6, j_ge_0, rc_103, X7_fin_0, h1, h2, h3, h4]
      · simp [D_X7_change, S_X7_change, m_den, l0, Value.category, s_seq, s_if, s_st, s_ret, s_retz, s_retv, s_skip, s_sc, s_inc, s_call, e_c, e_li, e_lr, e_lj, e_un, e_bin, e_if, e_b, b_not, b_and, b_or, b_of, e_call, a_recv, a_snoc, a_nil, prI, prJ, prR, e_gi, e_gr, e_ai, e_ar, s_as, s_aop, s_pf, s_pfz, s_fop, l_set, l_ok, e_div, e_rem, e_len, s_tab, X7_in, X7_isChimney, j_le_6, j_ge_0, rc_103, X7_fin_0, h1, h2, h3]
    · simp [D_X7_change, S_X7_change, m_den, l0, Value.category, s_seq, s_if, s_st, s_ret, s_retz, s_retv, s_skip, s_sc, s_inc, s_call, e_c, e_li, e_lr, e_lj, e_un, e_bin, e_if, e_b, b_not, b_and, b_or, b_of, e_call, a_recv, a_snoc, a_nil, prI, prJ, prR, e_gi, e_gr, e_ai, e_ar, s_as, s_aop, s_pf, s_pfz, s_fop, l_set, l_ok, e_div, e_rem, e_len, s_tab, X7_in, X7_isChimney, j_le_6, j_ge_0, rc_103, X7_fin_0, h1, h2]
  · simp [D_X7_change, S_X7_change, m_den, l0, Value.category, s_seq, s_if, s_st, s_ret, s_retz, s_retv, s_skip, s_sc, s_inc, s_call, e_c, e_li, e_lr, e_lj, e_un, e_bin, e_if, e_b, b_not, b_and, b_or, b_of, e_call, a_recv, a_snoc, a_nil, prI, prJ, prR, e_gi, e_gr, e_ai, e_ar, s_as, s_aop, s_pf, s_pfz, s_fop, l_set, l_ok, e_div, e_rem, e_len, s_tab, X7_in, X7_isChimney, j_le_6, j_ge_0, rc_103, X7_fin_0, h1]
theorem j_le (x y : Int32) : (x.toInt64 ≤ y.toInt64) = (x ≤ y) := propext (Int32.toInt64_le)
theorem REL.trait {f : FN} (h : REL f) {m n j u : Nat} (hT : TR f 1 (f 104) m) (hV : TV (f 104) m) (hn : n < m) (hj : j < 7) (hu : u ≤ lim j) : REL (row (row f (chId 1 n + 1) (upd (f (chId 1 n + 1)) j (nI u))) 104 (upd (f 104) (63 + 7 * n + j) (nI u))) := by
  have hm := hT.1.2.2.2.2
  have hx : chId 1 n + 1 ≤ 38 ∧ 7 ≤ chId 1 n + 1 := by unfold chId; omega
  have e2 : row (row f (chId 1 n + 1) (upd (f (chId 1 n + 1)) j (nI u))) 104 (upd (f 104) (63 + 7 * n + j) (nI u)) 104 = upd (f 104) (63 + 7 * n + j) (nI u) := row_self _ _ _
  refine h.town (m := m) (fun i hi => ?_) ⟨?_, ?_⟩ ?_ ?_
  · rw [row_ne _ _ (by omega), row_ne _ _ (by omega)]
  · rw [row_ne _ _ (by omega), row_ne _ _ (by omega)]
  · rw [row_ne _ _ (by omega), row_ne _ _ (by omega)]
  · rw [e2]
    exact (hT.trait hn hj).congr (fun i h1 h2 => row_ne _ _ (by omega))
  · rw [e2]
    obtain ⟨-, v1, v2, v3, v4⟩ := id hV
    refine hV.sig hm (fun i hi => upd_ne _ _ (by omega)) (fun c hc => ?_) (fun c hc => ?_) (fun c hc => ?_) (fun k hk i hi => ?_)
    · rw [upd_ne _ _ (by omega)]; exact v1 c hc
    · rw [upd_ne _ _ (by omega)]; exact v2 c hc
    · rw [upd_ne _ _ (by omega)]; exact v3 c hc
    · by_cases e : 63 + 7 * k + i = 63 + 7 * n + j
      · have : i = j := by omega
        subst this
        rw [e, upd_self]; exact ⟨u, hu, rfl⟩
      · rw [upd_ne _ _ e]; exact v4 k hk i hi
theorem agr_change {f : FN} (h : REL f) (c w v : Int32) : AGR D_X6_change D_X7_change [.int c, .int w, .int v] f := by
  obtain ⟨⟨m, hT, hV⟩, -⟩ := id h
  have em : f 1 2 = nI m := hT.1.2.2.2.1
  have em' : f 104 1 = nI m := hT.1.2.1.trans em
  have hm := hT.1.2.2.2.2
  by_cases hc : 0 ≤ c ∧ c ≤ nI m - 1 ∧ 0 ≤ w ∧ w ≤ 6
  · obtain ⟨n, hn, rfl⟩ := chi_ex ⟨hc.1, hc.2.1⟩ hm
    have h8 : n < 8 := by omega
    have hC := isCh_town (b := 1) (Or.inl rfl) h8
    obtain ⟨c1, -⟩ := hT.2.2.2.2.2.1 n hn
    have a1 := hc.1
    have a2 := hc.2.1
    have a3 := hc.2.2.1
    have a4 := hc.2.2.2
    obtain ⟨j, hj, rfl⟩ := in_ex (n := 6) hc.2.2 (by omega)
    have hlim : lim j < 2 ^ 31 := by
      match j, hj with
      | 0, _ => simp [lim]
      | 1, _ => simp [lim]
      | 2, _ => simp [lim]
      | 3, _ => simp [lim]
      | 4, _ => simp [lim]
      | 5, _ => simp [lim]
      | 6, _ => simp [lim]
      | k + 7, hk => exact absurd hk (by omega)
    have rl := rd_lim (memOf f) hj
    rw [Nat.add_zero] at rl
    by_cases b1 : 0 ≤ v
    · by_cases b2 : v ≤ nI (lim j)
      · obtain ⟨u, hu, rfl⟩ := nI_ex b1 b2 hlim
        refine ⟨f (chId 1 n + 1) j, row f (chId 1 n + 1) (upd (f (chId 1 n + 1)) j (nI u)), row (row f (chId 1 n + 1) (upd (f (chId 1 n + 1)) j (nI u))) 104 (upd (f 104) (63 + 7 * n + j) (nI u)), ?_, ?_, h.trait hT hV hn hj hu⟩
        · simp [D_X6_change, S_X6_change, m_den, l0, Value.category, s_seq, s_if, s_st, s_ret, s_retz, s_retv, s_skip, s_sc, s_inc, s_call, e_c, e_li, e_lr, e_lj, e_un, e_bin, e_if, e_b, b_not, b_and, b_or, b_of, e_call, a_recv, a_snoc, a_nil, prI, prJ, prR, e_gi, e_gr, e_ai, e_ar, s_as, s_aop, s_pf, s_pfz, s_fop, l_set, l_ok, e_div, e_rem, e_len, s_tab, rc_0, X6_isIn, X6_isChimney, em, a1, a2, a3, a4, rl, b1, b2, g_0_0, g_1_7, rr_6 f h8, gch0 f hC, rdt f hC hj, wrt f hC hj]
        · have e1 : row f (chId 1 n + 1) (upd (f (chId 1 n + 1)) j (nI u)) 104 = f 104 := row_ne _ _ (by unfold chId; omega)
          simp [D_X7_change, S_X7_change, m_den, l0, Value.category, s_seq, s_if, s_st, s_ret, s_retz, s_retv, s_skip, s_sc, s_inc, s_call, e_c, e_li, e_lr, e_lj, e_un, e_bin, e_if, e_b, b_not, b_and, b_or, b_of, e_call, a_recv, a_snoc, a_nil, prI, prJ, prR, e_gi, e_gr, e_ai, e_ar, s_as, s_aop, s_pf, s_pfz, s_fop, l_set, l_ok, e_div, e_rem, e_len, s_tab, rc_103, X7_in, X7_isChimney, j_le_6, j_ge_0, j_le, e1, em', a1, a2, a3, a4, b1, b2, X7_mostOf _ hj, X7_at, X7_its _ h8 hj, g_103_0, wr_104 _ (show 63 + 7 * n + j < 735 by omega), c1 j hj]
      · refine agr_find (j := 0) (v := -1000001) h ?_ (fun g hg => ?_)
        · simp [D_X6_change, S_X6_change, m_den, l0, Value.category, s_seq, s_if, s_st, s_ret, s_retz, s_retv, s_skip, s_sc, s_inc, s_call, e_c, e_li, e_lr, e_lj, e_un, e_bin, e_if, e_b, b_not, b_and, b_or, b_of, e_call, a_recv, a_snoc, a_nil, prI, prJ, prR, e_gi, e_gr, e_ai, e_ar, s_as, s_aop, s_pf, s_pfz, s_fop, l_set, l_ok, e_div, e_rem, e_len, s_tab, rc_0, X6_isIn, X6_isChimney, X6_fin_0, em, a1, a2, a3, a4, rl, b1, b2]
        · simp [D_X7_change, S_X7_change, m_den, l0, Value.category, s_seq, s_if, s_st, s_ret, s_retz, s_retv, s_skip, s_sc, s_inc, s_call, e_c, e_li, e_lr, e_lj, e_un, e_bin, e_if, e_b, b_not, b_and, b_or, b_of, e_call, a_recv, a_snoc, a_nil, prI, prJ, prR, e_gi, e_gr, e_ai, e_ar, s_as, s_aop, s_pf, s_pfz, s_fop, l_set, l_ok, e_div, e_rem, e_len, s_tab, rc_103, X7_in, X7_isChimney, X7_fin_0, j_le_6, j_ge_0, j_le, hg.1, em', a1, a2, a3, a4, b1, b2, X7_mostOf _ hj]
    · refine agr_find (j := 0) (v := -1000001) h ?_ (fun g hg => ?_)
      · simp [D_X6_change, S_X6_change, m_den, l0, Value.category, s_seq, s_if, s_st, s_ret, s_retz, s_retv, s_skip, s_sc, s_inc, s_call, e_c, e_li, e_lr, e_lj, e_un, e_bin, e_if, e_b, b_not, b_and, b_or, b_of, e_call, a_recv, a_snoc, a_nil, prI, prJ, prR, e_gi, e_gr, e_ai, e_ar, s_as, s_aop, s_pf, s_pfz, s_fop, l_set, l_ok, e_div, e_rem, e_len, s_tab, rc_0, X6_isIn, X6_isChimney, X6_fin_0, em, a1, a2, a3, a4, rl, b1]
      · simp [D_X7_change, S_X7_change, m_den, l0, Value.category, s_seq, s_if, s_st, s_ret, s_retz, s_retv, s_skip, s_sc, s_inc, s_call, e_c, e_li, e_lr, e_lj, e_un, e_bin, e_if, e_b, b_not, b_and, b_or, b_of, e_call, a_recv, a_snoc, a_nil, prI, prJ, prR, e_gi, e_gr, e_ai, e_ar, s_as, s_aop, s_pf, s_pfz, s_fop, l_set, l_ok, e_div, e_rem, e_len, s_tab, rc_103, X7_in, X7_isChimney, X7_fin_0, j_le_6, j_ge_0, j_le, hg.1, em', a1, a2, a3, a4, b1, X7_mostOf _ hj]
  · exact agr_find h (X6_change_no0 f (by rw [em]; exact hc)) (fun g hg => X7_change_no0 g (by rw [hg.1, em']; exact hc))
