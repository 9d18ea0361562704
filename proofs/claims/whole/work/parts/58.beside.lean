/-! the class's cellBeside, wind by wind -/
theorem nI_m6 {c : Nat} (q : 6 ≤ c) : nI c + -6 = nI (c - 6) := by rw [← nI_s q, Int32.sub_eq_add_neg, show -(nI 6) = (-6 : Int32) by decide]
theorem nI_m1 {c : Nat} (q : 1 ≤ c) : nI c + -1 = nI (c - 1) := by rw [← nI_s q, Int32.sub_eq_add_neg, show -(nI 1) = (-1 : Int32) by decide]
theorem X0_cb0 (M : GM) (c : Nat) : D_X0_cellBeside [.int (nI c), .int 0] M = some (.int (-1), M) := by
  simp [D_X0_cellBeside, S_X0_cellBeside, m_den, l0, Value.category, s_seq, s_if, s_st, s_ret, s_retz, s_retv, s_skip, s_sc, s_inc, s_call, e_c, e_li, e_lr, e_lj, e_un, e_bin, e_if, e_b, b_not, b_and, b_or, b_of, e_call, a_recv, a_snoc, a_nil, prI, prJ, prR, e_gi, e_gr, e_ai, e_ar, s_as, s_aop, s_pf, s_pfz, s_fop, l_set, l_ok, e_div, e_rem, e_len, s_tab]
theorem X0_cb2 (M : GM) {c : Nat} (hc : c < 36) : D_X0_cellBeside [.int (nI c), .int 2] M = some (.int (atv (mv c 2)), M) := by
  have r := rem6 (a := c) (by omega)
  have q : (nI (c % 6) = 5) = (c % 6 = 5) := propext (nI_inj (a := c % 6) (b := 5) (by omega) (by omega))
  by_cases k : c % 6 = 5
  · simp [D_X0_cellBeside, S_X0_cellBeside, m_den, l0, Value.category, s_seq, s_if, s_st, s_ret, s_retz, s_retv, s_skip, s_sc, s_inc, s_call, e_c, e_li, e_lr, e_lj, e_un, e_bin, e_if, e_b, b_not, b_and, b_or, b_of, e_call, a_recv, a_snoc, a_nil, prI, prJ, prR, e_gi, e_gr, e_ai, e_ar, s_as, s_aop, s_pf, s_pfz, s_fop, l_set, l_ok, e_div, e_rem, e_len, s_tab, mv, atv, r, q, k, show nI 5 = 5 from rfl]
  · simp [D_X0_cellBeside, S_X0_cellBeside, m_den, l0, Value.category, s_seq, s_if, s_st, s_ret, s_retz, s_retv, s_skip, s_sc, s_inc, s_call, e_c, e_li, e_lr, e_lj, e_un, e_bin, e_if, e_b, b_not, b_and, b_or, b_of, e_call, a_recv, a_snoc, a_nil, prI, prJ, prR, e_gi, e_gr, e_ai, e_ar, s_as, s_aop, s_pf, s_pfz, s_fop, l_set, l_ok, e_div, e_rem, e_len, s_tab, mv, atv, r, q, k, rd_ws2, nI_next]
theorem X0_cb3 (M : GM) {c : Nat} (hc : c < 36) : D_X0_cellBeside [.int (nI c), .int 3] M = some (.int (atv (mv c 3)), M) := by
  have q : (30 ≤ nI c) = (30 ≤ c) := propext (nI_le_iff (a := 30) (b := c) (by omega) (by omega))
  have p6 : nI c + 6 = nI (c + 6) := nI_a c 6
  by_cases k : 30 ≤ c
  · simp [D_X0_cellBeside, S_X0_cellBeside, m_den, l0, Value.category, s_seq, s_if, s_st, s_ret, s_retz, s_retv, s_skip, s_sc, s_inc, s_call, e_c, e_li, e_lr, e_lj, e_un, e_bin, e_if, e_b, b_not, b_and, b_or, b_of, e_call, a_recv, a_snoc, a_nil, prI, prJ, prR, e_gi, e_gr, e_ai, e_ar, s_as, s_aop, s_pf, s_pfz, s_fop, l_set, l_ok, e_div, e_rem, e_len, s_tab, mv, atv, q, k]
  · simp [D_X0_cellBeside, S_X0_cellBeside, m_den, l0, Value.category, s_seq, s_if, s_st, s_ret, s_retz, s_retv, s_skip, s_sc, s_inc, s_call, e_c, e_li, e_lr, e_lj, e_un, e_bin, e_if, e_b, b_not, b_and, b_or, b_of, e_call, a_recv, a_snoc, a_nil, prI, prJ, prR, e_gi, e_gr, e_ai, e_ar, s_as, s_aop, s_pf, s_pfz, s_fop, l_set, l_ok, e_div, e_rem, e_len, s_tab, mv, atv, q, k, rd_ws3, p6]
