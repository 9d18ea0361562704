/-! where a wind carries what is over a cell -/
def mv (c w : Nat) : Option Nat := match w with
  | 1 => if c < 6 then none else some (c - 6)
  | 2 => if c % 6 = 5 then none else some (c + 1)
  | 3 => if 30 ≤ c then none else some (c + 6)
  | 4 => if c % 6 = 0 then none else some (c - 1)
  | _ => none
theorem rem6 {a : Nat} (ha : a < 2 ^ 31) : nI a - nI a / 6 * 6 = nI (a % 6) := nI_r (b := 6) ha (by omega)
theorem rd_ws1 (M : GM) : gm_rd M (SPB + 4) 1 = some (-6) := rd_st (i := 1) M rfl rfl (by omega)
theorem rd_ws2 (M : GM) : gm_rd M (SPB + 4) 2 = some 1 := rd_st (i := 2) M rfl rfl (by omega)
theorem rd_ws3 (M : GM) : gm_rd M (SPB + 4) 3 = some 6 := rd_st (i := 3) M rfl rfl (by omega)
theorem rd_ws4 (M : GM) : gm_rd M (SPB + 4) 4 = some (-1) := rd_st (i := 4) M rfl rfl (by omega)
theorem lt5 {k : Nat} (h : k < 5) : k = 0 ∨ k = 1 ∨ k = 2 ∨ k = 3 ∨ k = 4 := by omega
theorem mv_lt {c w d : Nat} (hc : c < 36) (h : mv c w = some d) : d < 36 := by
  unfold mv at h
  split at h
  · split at h
    · cases h
    · cases h; omega
  · split at h
    · cases h
    · cases h; omega
  · split at h
    · cases h
    · cases h; omega
  · split at h
    · cases h
    · cases h; omega
  · cases h
theorem X7_carried (M : GM) {c w : Nat} (hc : c < 36) (hw : w < 5) (h0 : w ≠ 0) : D_X7_carried [.int (nI c), .int (nI w)] M = some (.int (atv (mv c w)), M) := by
  have r := rem6 (a := c) (by omega)
  have s6 : 6 ≤ c → nI c - 6 = nI (c - 6) := fun q => nI_s q
  have s1 : 1 ≤ c → nI c - 1 = nI (c - 1) := fun q => nI_s q
  have p6 : nI c + 6 = nI (c + 6) := nI_a c 6
  rcases lt5 hw with rfl | rfl | rfl | rfl | rfl
  · exact absurd rfl h0
  · have q : (nI c < 6) = (c < 6) := propext (nI_lt_iff (a := c) (b := 6) (by omega) (by omega))
    by_cases k : c < 6
    · simp [D_X7_carried, S_X7_carried, m_den, l0, Value.category, s_seq, s_if, s_st, s_ret, s_retz, s_retv, s_skip, s_sc, s_inc, s_call, e_c, e_li, e_lr, e_lj, e_un, e_bin, e_if, e_b, b_not, b_and, b_or, b_of, e_call, a_recv, a_snoc, a_nil, prI, prJ, prR, e_gi, e_gr, e_ai, e_ar, s_as, s_aop, s_pf, s_pfz, s_fop, l_set, l_ok, e_div, e_rem, e_len, s_tab, mv, atv, show nI 1 = 1 from rfl, q, k]
    · simp [D_X7_carried, S_X7_carried, m_den, l0, Value.category, s_seq, s_if, s_st, s_ret, s_retz, s_retv, s_skip, s_sc, s_inc, s_call, e_c, e_li, e_lr, e_lj, e_un, e_bin, e_if, e_b, b_not, b_and, b_or, b_of, e_call, a_recv, a_snoc, a_nil, prI, prJ, prR, e_gi, e_gr, e_ai, e_ar, s_as, s_aop, s_pf, s_pfz, s_fop, l_set, l_ok, e_div, e_rem, e_len, s_tab, mv, atv, show nI 1 = 1 from rfl, q, k, s6 (by omega)]
  · have q : (nI (c % 6) = 5) = (c % 6 = 5) := propext (nI_inj (a := c % 6) (b := 5) (by omega) (by omega))
    by_cases k : c % 6 = 5
    · simp [D_X7_carried, S_X7_carried, m_den, l0, Value.category, s_seq, s_if, s_st, s_ret, s_retz, s_retv, s_skip, s_sc, s_inc, s_call, e_c, e_li, e_lr, e_lj, e_un, e_bin, e_if, e_b, b_not, b_and, b_or, b_of, e_call, a_recv, a_snoc, a_nil, prI, prJ, prR, e_gi, e_gr, e_ai, e_ar, s_as, s_aop, s_pf, s_pfz, s_fop, l_set, l_ok, e_div, e_rem, e_len, s_tab, mv, atv, show nI 2 = 2 from rfl, r, q, k, show nI 5 = 5 from rfl]
    · simp [D_X7_carried, S_X7_carried, m_den, l0, Value.category, s_seq, s_if, s_st, s_ret, s_retz, s_retv, s_skip, s_sc, s_inc, s_call, e_c, e_li, e_lr, e_lj, e_un, e_bin, e_if, e_b, b_not, b_and, b_or, b_of, e_call, a_recv, a_snoc, a_nil, prI, prJ, prR, e_gi, e_gr, e_ai, e_ar, s_as, s_aop, s_pf, s_pfz, s_fop, l_set, l_ok, e_div, e_rem, e_len, s_tab, mv, atv, show nI 2 = 2 from rfl, r, q, k, nI_next]
  · have q : (29 < nI c) = (29 < c) := propext (nI_lt_iff (a := 29) (b := c) (by omega) (by omega))
    by_cases k : 29 < c
    · have k2 : 30 ≤ c := k
      simp [D_X7_carried, S_X7_carried, m_den, l0, Value.category, s_seq, s_if, s_st, s_ret, s_retz, s_retv, s_skip, s_sc, s_inc, s_call, e_c, e_li, e_lr, e_lj, e_un, e_bin, e_if, e_b, b_not, b_and, b_or, b_of, e_call, a_recv, a_snoc, a_nil, prI, prJ, prR, e_gi, e_gr, e_ai, e_ar, s_as, s_aop, s_pf, s_pfz, s_fop, l_set, l_ok, e_div, e_rem, e_len, s_tab, mv, atv, show nI 3 = 3 from rfl, q, k, k2]
    · have k2 : ¬ 30 ≤ c := k
      simp [D_X7_carried, S_X7_carried, m_den, l0, Value.category, s_seq, s_if, s_st, s_ret, s_retz, s_retv, s_skip, s_sc, s_inc, s_call, e_c, e_li, e_lr, e_lj, e_un, e_bin, e_if, e_b, b_not, b_and, b_or, b_of, e_call, a_recv, a_snoc, a_nil, prI, prJ, prR, e_gi, e_gr, e_ai, e_ar, s_as, s_aop, s_pf, s_pfz, s_fop, l_set, l_ok, e_div, e_rem, e_len, s_tab, mv, atv, show nI 3 = 3 from rfl, q, k, k2, p6]
  · have q : (nI (c % 6) = 0) = (c % 6 = 0) := propext (nI_inj (a := c % 6) (b := 0) (by omega) (by omega))
    by_cases k : c % 6 = 0
    · simp [D_X7_carried, S_X7_carried, m_den, l0, Value.category, s_seq, s_if, s_st, s_ret, s_retz, s_retv, s_skip, s_sc, s_inc, s_call, e_c, e_li, e_lr, e_lj, e_un, e_bin, e_if, e_b, b_not, b_and, b_or, b_of, e_call, a_recv, a_snoc, a_nil, prI, prJ, prR, e_gi, e_gr, e_ai, e_ar, s_as, s_aop, s_pf, s_pfz, s_fop, l_set, l_ok, e_div, e_rem, e_len, s_tab, mv, atv, show nI 4 = 4 from rfl, r, q, k, show nI 0 = 0 from rfl]
    · simp [D_X7_carried, S_X7_carried, m_den, l0, Value.category, s_seq, s_if, s_st, s_ret, s_retz, s_retv, s_skip, s_sc, s_inc, s_call, e_c, e_li, e_lr, e_lj, e_un, e_bin, e_if, e_b, b_not, b_and, b_or, b_of, e_call, a_recv, a_snoc, a_nil, prI, prJ, prR, e_gi, e_gr, e_ai, e_ar, s_as, s_aop, s_pf, s_pfz, s_fop, l_set, l_ok, e_div, e_rem, e_len, s_tab, mv, atv, show nI 4 = 4 from rfl, r, q, k, s1 (by omega)]
