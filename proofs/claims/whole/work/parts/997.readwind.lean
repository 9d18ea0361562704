/-! winds of the class: the first reading (nothing but the cursor moves) -/
theorem readWind_cond (f : FN) {T : Nat → Nat} {t : Nat} {q : Nat × Bool} (h : cuX f T t q.1 q.2) {n : Nat} (hn : n < 100) : WB_X1_readWind_1 [.ref 77, .ref 1, .int (nI n)] (memOf f) = some (decide (n < 24 ∧ q.2 = false ∧ tK T t q.1 = 2), memOf f) := by
  have hf := h.fault
  have ha := X4_hasFault f
  have hk := tk_b T h.1
  have k3 := h.2.2.1.1
  have q2 : (nI (tK T t q.1) = (2 : Int32)) = (tK T t q.1 = 2) := propext (nI_inj (a := tK T t q.1) (b := 2) (by omega) (by omega))
  have n24 : (nI n < (24 : Int32)) = (n < 24) := propext (nI_lt_iff (a := n) (b := 24) (by omega) (by omega))
  by_cases c1 : n < 24
  · by_cases c2 : q.2 = true
    · have c2' : 0 ≤ f 78 2 := by rw [hf]; exact c2
      simp [WB_X1_readWind_1, m_den, l0, Value.category, s_seq, s_if, s_st, s_ret, s_retz, s_retv, s_skip, s_sc, s_inc, s_call, e_c, e_li, e_lr, e_lj, e_un, e_bin, e_if, e_b, b_not, b_and, b_or, b_of, e_call, a_recv, a_snoc, a_nil, prI, prJ, prR, e_gi, e_gr, e_ai, e_ar, s_as, s_aop, s_pf, s_pfz, s_fop, l_set, l_ok, e_div, e_rem, e_len, s_tab, g_77_0, rc_78, ha, c2', n24, c1, c2]
    · have c2' : ¬ 0 ≤ f 78 2 := by rw [hf]; exact c2
      have c3 : q.2 = false := by cases r : q.2 <;> simp_all
      simp [WB_X1_readWind_1, m_den, l0, Value.category, s_seq, s_if, s_st, s_ret, s_retz, s_retv, s_skip, s_sc, s_inc, s_call, e_c, e_li, e_lr, e_lj, e_un, e_bin, e_if, e_b, b_not, b_and, b_or, b_of, e_call, a_recv, a_snoc, a_nil, prI, prJ, prR, e_gi, e_gr, e_ai, e_ar, s_as, s_aop, s_pf, s_pfz, s_fop, l_set, l_ok, e_div, e_rem, e_len, s_tab, g_77_0, rc_78, ha, c2', n24, c1, c3, g_78_3, k3, q2]
  · simp [WB_X1_readWind_1, m_den, l0, Value.category, s_seq, s_if, s_st, s_ret, s_retz, s_retv, s_skip, s_sc, s_inc, s_call, e_c, e_li, e_lr, e_lj, e_un, e_bin, e_if, e_b, b_not, b_and, b_or, b_of, e_call, a_recv, a_snoc, a_nil, prI, prJ, prR, e_gi, e_gr, e_ai, e_ar, s_as, s_aop, s_pf, s_pfz, s_fop, l_set, l_ok, e_div, e_rem, e_len, s_tab, n24, c1]
