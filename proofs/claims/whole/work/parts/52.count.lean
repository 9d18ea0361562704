/-! count, thickest -/
def nbz (g : Nat → Int32) : Nat → Int32 := fun i => if 0 ≤ g i then 1 else 0
theorem X6_nbz2_W (f : FN) : W_X6_notBelowZero_1 [.ref 2, .int 0, .int 0] (memOf f) = some (.inl ([.ref 2, .int (sumI 36 (nbz (f 2))), .int (nI 36)], memOf f)) := by
  refine while_count (fun k => ([.ref 2, .int (sumI k (nbz (f 2))), .int (nI k)], memOf f)) 36 (by unfold FU; omega) (fun k hk => ?_) (fun k hk => ?_) ?_
  · have e : nI k < (36 : Int32) := lt_lit (n := 36) hk (by omega)
    simp [WB_X6_notBelowZero_1, m_den, l0, Value.category, s_seq, s_if, s_st, s_ret, s_retz, s_retv, s_skip, s_sc, s_inc, s_call, e_c, e_li, e_lr, e_lj, e_un, e_bin, e_if, e_b, b_not, b_and, b_or, b_of, e_call, a_recv, a_snoc, a_nil, prI, prJ, prR, e_gi, e_gr, e_ai, e_ar, s_as, s_aop, s_pf, s_pfz, s_fop, l_set, l_ok, e_div, e_rem, e_len, s_tab, ln_2, sl_len, e]
  · by_cases q : 0 ≤ f 2 k
    · simp [WS_X6_notBelowZero_1, m_den, l0, Value.category, s_seq, s_if, s_st, s_ret, s_retz, s_retv, s_skip, s_sc, s_inc, s_call, e_c, e_li, e_lr, e_lj, e_un, e_bin, e_if, e_b, b_not, b_and, b_or, b_of, e_call, a_recv, a_snoc, a_nil, prI, prJ, prR, e_gi, e_gr, e_ai, e_ar, s_as, s_aop, s_pf, s_pfz, s_fop, l_set, l_ok, e_div, e_rem, e_len, s_tab, rd_2 f hk, q, nI_next, sumI, nbz]
    · simp [WS_X6_notBelowZero_1, m_den, l0, Value.category, s_seq, s_if, s_st, s_ret, s_retz, s_retv, s_skip, s_sc, s_inc, s_call, e_c, e_li, e_lr, e_lj, e_un, e_bin, e_if, e_b, b_not, b_and, b_or, b_of, e_call, a_recv, a_snoc, a_nil, prI, prJ, prR, e_gi, e_gr, e_ai, e_ar, s_as, s_aop, s_pf, s_pfz, s_fop, l_set, l_ok, e_div, e_rem, e_len, s_tab, rd_2 f hk, q, nI_next, sumI, nbz]
  · have e : ¬ nI 36 < (36 : Int32) := nlt_lit (n := 36) (by omega)
    simp [WB_X6_notBelowZero_1, m_den, l0, Value.category, s_seq, s_if, s_st, s_ret, s_retz, s_retv, s_skip, s_sc, s_inc, s_call, e_c, e_li, e_lr, e_lj, e_un, e_bin, e_if, e_b, b_not, b_and, b_or, b_of, e_call, a_recv, a_snoc, a_nil, prI, prJ, prR, e_gi, e_gr, e_ai, e_ar, s_as, s_aop, s_pf, s_pfz, s_fop, l_set, l_ok, e_div, e_rem, e_len, s_tab, ln_2, sl_len, e]
theorem X6_nbz5_W (f : FN) : W_X6_notBelowZero_1 [.ref 5, .int 0, .int 0] (memOf f) = some (.inl ([.ref 5, .int (sumI 10 (nbz (f 5))), .int (nI 10)], memOf f)) := by
  refine while_count (fun k => ([.ref 5, .int (sumI k (nbz (f 5))), .int (nI k)], memOf f)) 10 (by unfold FU; omega) (fun k hk => ?_) (fun k hk => ?_) ?_
  · have e : nI k < (10 : Int32) := lt_lit (n := 10) hk (by omega)
    simp [WB_X6_notBelowZero_1, m_den, l0, Value.category, s_seq, s_if, s_st, s_ret, s_retz, s_retv, s_skip, s_sc, s_inc, s_call, e_c, e_li, e_lr, e_lj, e_un, e_bin, e_if, e_b, b_not, b_and, b_or, b_of, e_call, a_recv, a_snoc, a_nil, prI, prJ, prR, e_gi, e_gr, e_ai, e_ar, s_as, s_aop, s_pf, s_pfz, s_fop, l_set, l_ok, e_div, e_rem, e_len, s_tab, ln_5, sl_len, e]
  · by_cases q : 0 ≤ f 5 k
    · simp [WS_X6_notBelowZero_1, m_den, l0, Value.category, s_seq, s_if, s_st, s_ret, s_retz, s_retv, s_skip, s_sc, s_inc, s_call, e_c, e_li, e_lr, e_lj, e_un, e_bin, e_if, e_b, b_not, b_and, b_or, b_of, e_call, a_recv, a_snoc, a_nil, prI, prJ, prR, e_gi, e_gr, e_ai, e_ar, s_as, s_aop, s_pf, s_pfz, s_fop, l_set, l_ok, e_div, e_rem, e_len, s_tab, rd_5 f hk, q, nI_next, sumI, nbz]
    · simp [WS_X6_notBelowZero_1, m_den, l0, Value.category, s_seq, s_if, s_st, s_ret, s_retz, s_retv, s_skip, s_sc, s_inc, s_call, e_c, e_li, e_lr, e_lj, e_un, e_bin, e_if, e_b, b_not, b_and, b_or, b_of, e_call, a_recv, a_snoc, a_nil, prI, prJ, prR, e_gi, e_gr, e_ai, e_ar, s_as, s_aop, s_pf, s_pfz, s_fop, l_set, l_ok, e_div, e_rem, e_len, s_tab, rd_5 f hk, q, nI_next, sumI, nbz]
  · have e : ¬ nI 10 < (10 : Int32) := nlt_lit (n := 10) (by omega)
    simp [WB_X6_notBelowZero_1, m_den, l0, Value.category, s_seq, s_if, s_st, s_ret, s_retz, s_retv, s_skip, s_sc, s_inc, s_call, e_c, e_li, e_lr, e_lj, e_un, e_bin, e_if, e_b, b_not, b_and, b_or, b_of, e_call, a_recv, a_snoc, a_nil, prI, prJ, prR, e_gi, e_gr, e_ai, e_ar, s_as, s_aop, s_pf, s_pfz, s_fop, l_set, l_ok, e_div, e_rem, e_len, s_tab, ln_5, sl_len, e]
theorem X6_nbz2 (f : FN) : D_X6_notBelowZero [.ref 2] (memOf f) = some (.int (sumI 36 (nbz (f 2))), memOf f) := by
  simp [D_X6_notBelowZero, S_X6_notBelowZero, m_den, l0, Value.category, s_seq, s_if, s_st, s_ret, s_retz, s_retv, s_skip, s_sc, s_inc, s_call, e_c, e_li, e_lr, e_lj, e_un, e_bin, e_if, e_b, b_not, b_and, b_or, b_of, e_call, a_recv, a_snoc, a_nil, prI, prJ, prR, e_gi, e_gr, e_ai, e_ar, s_as, s_aop, s_pf, s_pfz, s_fop, l_set, l_ok, e_div, e_rem, e_len, s_tab, X6_nbz2_W]
theorem X6_nbz5 (f : FN) : D_X6_notBelowZero [.ref 5] (memOf f) = some (.int (sumI 10 (nbz (f 5))), memOf f) := by
  simp [D_X6_notBelowZero, S_X6_notBelowZero, m_den, l0, Value.category, s_seq, s_if, s_st, s_ret, s_retz, s_retv, s_skip, s_sc, s_inc, s_call, e_c, e_li, e_lr, e_lj, e_un, e_bin, e_if, e_b, b_not, b_and, b_or, b_of, e_call, a_recv, a_snoc, a_nil, prI, prJ, prR, e_gi, e_gr, e_ai, e_ar, s_as, s_aop, s_pf, s_pfz, s_fop, l_set, l_ok, e_div, e_rem, e_len, s_tab, X6_nbz5_W]
theorem X7_count_W1 (f : FN) (w : Int32) : W_X7_count_1 [.ref 103, .int w, .int 0, .int 0] (memOf f) = some (.inl ([.ref 103, .int w, .int (sumI 36 (nbz (fun c => f 104 (3 + c)))), .int (nI 36)], memOf f)) := by
  refine while_count (fun k => ([.ref 103, .int w, .int (sumI k (nbz (fun c => f 104 (3 + c)))), .int (nI k)], memOf f)) 36 (by unfold FU; omega) (fun k hk => ?_) (fun k hk => ?_) ?_
  · have e : nI k < (36 : Int32) := lt_lit (n := 36) hk (by omega)
    simp [WB_X7_count_1, m_den, l0, Value.category, s_seq, s_if, s_st, s_ret, s_retz, s_retv, s_skip, s_sc, s_inc, s_call, e_c, e_li, e_lr, e_lj, e_un, e_bin, e_if, e_b, b_not, b_and, b_or, b_of, e_call, a_recv, a_snoc, a_nil, prI, prJ, prR, e_gi, e_gr, e_ai, e_ar, s_as, s_aop, s_pf, s_pfz, s_fop, l_set, l_ok, e_div, e_rem, e_len, s_tab, e]
  · have e3 : (3 : Int32) + nI k = nI (3 + k) := nI_a 3 k
    by_cases q : f 104 (3 + k) < 0
    · have q2 := Int32.not_le.mpr q
      simp [WS_X7_count_1, m_den, l0, Value.category, s_seq, s_if, s_st, s_ret, s_retz, s_retv, s_skip, s_sc, s_inc, s_call, e_c, e_li, e_lr, e_lj, e_un, e_bin, e_if, e_b, b_not, b_and, b_or, b_of, e_call, a_recv, a_snoc, a_nil, prI, prJ, prR, e_gi, e_gr, e_ai, e_ar, s_as, s_aop, s_pf, s_pfz, s_fop, l_set, l_ok, e_div, e_rem, e_len, s_tab, g_103_0, e3, rd_104 f (show 3 + k < 735 by omega), q, q2, nI_next, sumI, nbz]
    · have q2 := Int32.not_lt.mp q
      simp [WS_X7_count_1, m_den, l0, Value.category, s_seq, s_if, s_st, s_ret, s_retz, s_retv, s_skip, s_sc, s_inc, s_call, e_c, e_li, e_lr, e_lj, e_un, e_bin, e_if, e_b, b_not, b_and, b_or, b_of, e_call, a_recv, a_snoc, a_nil, prI, prJ, prR, e_gi, e_gr, e_ai, e_ar, s_as, s_aop, s_pf, s_pfz, s_fop, l_set, l_ok, e_div, e_rem, e_len, s_tab, g_103_0, e3, rd_104 f (show 3 + k < 735 by omega), q, q2, nI_next, sumI, nbz]
  · have e : ¬ nI 36 < (36 : Int32) := nlt_lit (n := 36) (by omega)
    simp [WB_X7_count_1, m_den, l0, Value.category, s_seq, s_if, s_st, s_ret, s_retz, s_retv, s_skip, s_sc, s_inc, s_call, e_c, e_li, e_lr, e_lj, e_un, e_bin, e_if, e_b, b_not, b_and, b_or, b_of, e_call, a_recv, a_snoc, a_nil, prI, prJ, prR, e_gi, e_gr, e_ai, e_ar, s_as, s_aop, s_pf, s_pfz, s_fop, l_set, l_ok, e_div, e_rem, e_len, s_tab, e]
theorem X7_count_W2 (f : FN) (w : Int32) : W_X7_count_2 [.ref 103, .int w, .int 0, .int 0] (memOf f) = some (.inl ([.ref 103, .int w, .int (sumI 10 (nbz (fun c => f 104 (725 + c)))), .int (nI 10)], memOf f)) := by
  refine while_count (fun k => ([.ref 103, .int w, .int (sumI k (nbz (fun c => f 104 (725 + c)))), .int (nI k)], memOf f)) 10 (by unfold FU; omega) (fun k hk => ?_) (fun k hk => ?_) ?_
  · have e : nI k < (10 : Int32) := lt_lit (n := 10) hk (by omega)
    simp [WB_X7_count_2, m_den, l0, Value.category, s_seq, s_if, s_st, s_ret, s_retz, s_retv, s_skip, s_sc, s_inc, s_call, e_c, e_li, e_lr, e_lj, e_un, e_bin, e_if, e_b, b_not, b_and, b_or, b_of, e_call, a_recv, a_snoc, a_nil, prI, prJ, prR, e_gi, e_gr, e_ai, e_ar, s_as, s_aop, s_pf, s_pfz, s_fop, l_set, l_ok, e_div, e_rem, e_len, s_tab, e]
  · have e3 : (725 : Int32) + nI k = nI (725 + k) := nI_a 725 k
    by_cases q : f 104 (725 + k) < 0
    · have q2 := Int32.not_le.mpr q
      simp [WS_X7_count_2, m_den, l0, Value.category, s_seq, s_if, s_st, s_ret, s_retz, s_retv, s_skip, s_sc, s_inc, s_call, e_c, e_li, e_lr, e_lj, e_un, e_bin, e_if, e_b, b_not, b_and, b_or, b_of, e_call, a_recv, a_snoc, a_nil, prI, prJ, prR, e_gi, e_gr, e_ai, e_ar, s_as, s_aop, s_pf, s_pfz, s_fop, l_set, l_ok, e_div, e_rem, e_len, s_tab, g_103_0, e3, rd_104 f (show 725 + k < 735 by omega), q, q2, nI_next, sumI, nbz]
    · have q2 := Int32.not_lt.mp q
      simp [WS_X7_count_2, m_den, l0, Value.category, s_seq, s_if, s_st, s_ret, s_retz, s_retv, s_skip, s_sc, s_inc, s_call, e_c, e_li, e_lr, e_lj, e_un, e_bin, e_if, e_b, b_not, b_and, b_or, b_of, e_call, a_recv, a_snoc, a_nil, prI, prJ, prR, e_gi, e_gr, e_ai, e_ar, s_as, s_aop, s_pf, s_pfz, s_fop, l_set, l_ok, e_div, e_rem, e_len, s_tab, g_103_0, e3, rd_104 f (show 725 + k < 735 by omega), q, q2, nI_next, sumI, nbz]
  · have e : ¬ nI 10 < (10 : Int32) := nlt_lit (n := 10) (by omega)
    simp [WB_X7_count_2, m_den, l0, Value.category, s_seq, s_if, s_st, s_ret, s_retz, s_retv, s_skip, s_sc, s_inc, s_call, e_c, e_li, e_lr, e_lj, e_un, e_bin, e_if, e_b, b_not, b_and, b_or, b_of, e_call, a_recv, a_snoc, a_nil, prI, prJ, prR, e_gi, e_gr, e_ai, e_ar, s_as, s_aop, s_pf, s_pfz, s_fop, l_set, l_ok, e_div, e_rem, e_len, s_tab, e]
theorem lt8 {k : Nat} (h : k < 8) : k = 0 ∨ k = 1 ∨ k = 2 ∨ k = 3 ∨ k = 4 ∨ k = 5 ∨ k = 6 ∨ k = 7 := by omega
theorem agr_count {f : FN} (h : REL f) (w : Int32) : AGR D_X6_count D_X7_count [.int w] f := by
  obtain ⟨⟨m, hT, hV⟩, -, -, -, ⟨t, t1, t2, t3⟩, -⟩ := id h
  have em : f 1 2 = nI m := hT.1.2.2.2.1
  have em' : f 104 1 = nI m := hT.1.2.1.trans em
  have hm := hT.1.2.2.2.2
  by_cases hc : 0 ≤ w ∧ w ≤ 7
  · obtain ⟨n, hn, rfl⟩ := in_ex (n := 7) hc (by omega)
    rcases lt8 hn with rfl | rfl | rfl | rfl | rfl | rfl | rfl | rfl
    · rw [show nI 0 = 0 from rfl]
      refine ⟨f 1 0, f, f, ?_, ?_, h⟩
      · simp [D_X6_count, S_X6_count, m_den, l0, Value.category, s_seq, s_if, s_st, s_ret, s_retz, s_retv, s_skip, s_sc, s_inc, s_call, e_c, e_li, e_lr, e_lj, e_un, e_bin, e_if, e_b, b_not, b_and, b_or, b_of, e_call, a_recv, a_snoc, a_nil, prI, prJ, prR, e_gi, e_gr, e_ai, e_ar, s_as, s_aop, s_pf, s_pfz, s_fop, l_set, l_ok, e_div, e_rem, e_len, s_tab, g_0_0, g_1_0]
      · simp [D_X7_count, S_X7_count, m_den, l0, Value.category, s_seq, s_if, s_st, s_ret, s_retz, s_retv, s_skip, s_sc, s_inc, s_call, e_c, e_li, e_lr, e_lj, e_un, e_bin, e_if, e_b, b_not, b_and, b_or, b_of, e_call, a_recv, a_snoc, a_nil, prI, prJ, prR, e_gi, e_gr, e_ai, e_ar, s_as, s_aop, s_pf, s_pfz, s_fop, l_set, l_ok, e_div, e_rem, e_len, s_tab, g_103_0, rd_104_0, hT.1.1]
    · rw [show nI 1 = 1 from rfl]
      refine ⟨nI m, f, f, ?_, ?_, h⟩
      · simp [D_X6_count, S_X6_count, m_den, l0, Value.category, s_seq, s_if, s_st, s_ret, s_retz, s_retv, s_skip, s_sc, s_inc, s_call, e_c, e_li, e_lr, e_lj, e_un, e_bin, e_if, e_b, b_not, b_and, b_or, b_of, e_call, a_recv, a_snoc, a_nil, prI, prJ, prR, e_gi, e_gr, e_ai, e_ar, s_as, s_aop, s_pf, s_pfz, s_fop, l_set, l_ok, e_div, e_rem, e_len, s_tab, g_0_0, g_1_2, em]
      · simp [D_X7_count, S_X7_count, m_den, l0, Value.category, s_seq, s_if, s_st, s_ret, s_retz, s_retv, s_skip, s_sc, s_inc, s_call, e_c, e_li, e_lr, e_lj, e_un, e_bin, e_if, e_b, b_not, b_and, b_or, b_of, e_call, a_recv, a_snoc, a_nil, prI, prJ, prR, e_gi, e_gr, e_ai, e_ar, s_as, s_aop, s_pf, s_pfz, s_fop, l_set, l_ok, e_div, e_rem, e_len, s_tab, g_103_0, rd_104_1, em']
    · rw [show nI 2 = 2 from rfl]
      refine ⟨sumI 36 (nbz (f 2)), f, f, ?_, ?_, h⟩
      · simp [D_X6_count, S_X6_count, m_den, l0, Value.category, s_seq, s_if, s_st, s_ret, s_retz, s_retv, s_skip, s_sc, s_inc, s_call, e_c, e_li, e_lr, e_lj, e_un, e_bin, e_if, e_b, b_not, b_and, b_or, b_of, e_call, a_recv, a_snoc, a_nil, prI, prJ, prR, e_gi, e_gr, e_ai, e_ar, s_as, s_aop, s_pf, s_pfz, s_fop, l_set, l_ok, e_div, e_rem, e_len, s_tab, g_0_0, g_1_3, X6_nbz2]
      · have e : sumI 36 (nbz (fun c => f 104 (3 + c))) = sumI 36 (nbz (f 2)) := sumI_congr fun c hc => by show (if 0 ≤ f 104 (3 + c) then (1 : Int32) else 0) = _; rw [hT.2.1 c hc]; rfl
        simp [D_X7_count, S_X7_count, m_den, l0, Value.category, s_seq, s_if, s_st, s_ret, s_retz, s_retv, s_skip, s_sc, s_inc, s_call, e_c, e_li, e_lr, e_lj, e_un, e_bin, e_if, e_b, b_not, b_and, b_or, b_of, e_call, a_recv, a_snoc, a_nil, prI, prJ, prR, e_gi, e_gr, e_ai, e_ar, s_as, s_aop, s_pf, s_pfz, s_fop, l_set, l_ok, e_div, e_rem, e_len, s_tab, X7_count_W1, e]
    · rw [show nI 3 = 3 from rfl]
      have e : sumI m (smS f 125 (-1) (-1)) = sumI m (fun k => overN (f (chId 1 k + 2)) (-1)) := by rw [sums_all f 125 m (by decide)]; exact sumI_congr fun k hk => overN_congr (by decide) (fun c hc => (hT.2.2.2.2.2.1 k hk).2.1 c hc)
      have r : D_X7_sums [.ref 103, .int 125, .int (-1), .int (-1)] (memOf f) = _ := X7_sums f (w := 125) (by omega) hm em' (-1) (-1)
      rw [e] at r
      refine ⟨sumI m (fun k => overN (f (chId 1 k + 2)) (-1)), f, f, ?_, ?_, h⟩
      · simp [D_X6_count, S_X6_count, m_den, l0, Value.category, s_seq, s_if, s_st, s_ret, s_retz, s_retv, s_skip, s_sc, s_inc, s_call, e_c, e_li, e_lr, e_lj, e_un, e_bin, e_if, e_b, b_not, b_and, b_or, b_of, e_call, a_recv, a_snoc, a_nil, prI, prJ, prR, e_gi, e_gr, e_ai, e_ar, s_as, s_aop, s_pf, s_pfz, s_fop, l_set, l_ok, e_div, e_rem, e_len, s_tab, rc_0, X6_air_all f hm em (cell := -1) (by decide) (by decide)]
      · simp [D_X7_count, S_X7_count, m_den, l0, Value.category, s_seq, s_if, s_st, s_ret, s_retz, s_retv, s_skip, s_sc, s_inc, s_call, e_c, e_li, e_lr, e_lj, e_un, e_bin, e_if, e_b, b_not, b_and, b_or, b_of, e_call, a_recv, a_snoc, a_nil, prI, prJ, prR, e_gi, e_gr, e_ai, e_ar, s_as, s_aop, s_pf, s_pfz, s_fop, l_set, l_ok, e_div, e_rem, e_len, s_tab, rc_103, r]
    · rw [show nI 4 = 4 from rfl]
      have e : sumI m (smS f 413 (-1) (-1)) = sumI m (fun k => overN (f (chId 1 k + 3)) (-1)) := by rw [sums_all f 413 m (by decide)]; exact sumI_congr fun k hk => overN_congr (by decide) (fun c hc => (hT.2.2.2.2.2.1 k hk).2.2.1 c hc)
      have r : D_X7_sums [.ref 103, .int 413, .int (-1), .int (-1)] (memOf f) = _ := X7_sums f (w := 413) (by omega) hm em' (-1) (-1)
      rw [e] at r
      refine ⟨sumI m (fun k => overN (f (chId 1 k + 3)) (-1)), f, f, ?_, ?_, h⟩
      · simp [D_X6_count, S_X6_count, m_den, l0, Value.category, s_seq, s_if, s_st, s_ret, s_retz, s_retv, s_skip, s_sc, s_inc, s_call, e_c, e_li, e_lr, e_lj, e_un, e_bin, e_if, e_b, b_not, b_and, b_or, b_of, e_call, a_recv, a_snoc, a_nil, prI, prJ, prR, e_gi, e_gr, e_ai, e_ar, s_as, s_aop, s_pf, s_pfz, s_fop, l_set, l_ok, e_div, e_rem, e_len, s_tab, rc_0, X6_settled_all f hm em (cell := -1) (by decide) (by decide)]
      · simp [D_X7_count, S_X7_count, m_den, l0, Value.category, s_seq, s_if, s_st, s_ret, s_retz, s_retv, s_skip, s_sc, s_inc, s_call, e_c, e_li, e_lr, e_lj, e_un, e_bin, e_if, e_b, b_not, b_and, b_or, b_of, e_call, a_recv, a_snoc, a_nil, prI, prJ, prR, e_gi, e_gr, e_ai, e_ar, s_as, s_aop, s_pf, s_pfz, s_fop, l_set, l_ok, e_div, e_rem, e_len, s_tab, rc_103, r]
    · rw [show nI 5 = 5 from rfl]
      refine ⟨nI t, f, f, ?_, ?_, h⟩
      · simp [D_X6_count, S_X6_count, m_den, l0, Value.category, s_seq, s_if, s_st, s_ret, s_retz, s_retv, s_skip, s_sc, s_inc, s_call, e_c, e_li, e_lr, e_lj, e_un, e_bin, e_if, e_b, b_not, b_and, b_or, b_of, e_call, a_recv, a_snoc, a_nil, prI, prJ, prR, e_gi, e_gr, e_ai, e_ar, s_as, s_aop, s_pf, s_pfz, s_fop, l_set, l_ok, e_div, e_rem, e_len, s_tab, g_0_3, g_77_0, g_78_1, t2]
      · simp [D_X7_count, S_X7_count, m_den, l0, Value.category, s_seq, s_if, s_st, s_ret, s_retz, s_retv, s_skip, s_sc, s_inc, s_call, e_c, e_li, e_lr, e_lj, e_un, e_bin, e_if, e_b, b_not, b_and, b_or, b_of, e_call, a_recv, a_snoc, a_nil, prI, prJ, prR, e_gi, e_gr, e_ai, e_ar, s_as, s_aop, s_pf, s_pfz, s_fop, l_set, l_ok, e_div, e_rem, e_len, s_tab, g_103_12, t3]
    · rw [show nI 6 = 6 from rfl]
      refine ⟨f 1 1, f, f, ?_, ?_, h⟩
      · simp [D_X6_count, S_X6_count, m_den, l0, Value.category, s_seq, s_if, s_st, s_ret, s_retz, s_retv, s_skip, s_sc, s_inc, s_call, e_c, e_li, e_lr, e_lj, e_un, e_bin, e_if, e_b, b_not, b_and, b_or, b_of, e_call, a_recv, a_snoc, a_nil, prI, prJ, prR, e_gi, e_gr, e_ai, e_ar, s_as, s_aop, s_pf, s_pfz, s_fop, l_set, l_ok, e_div, e_rem, e_len, s_tab, g_0_0, g_1_1]
      · simp [D_X7_count, S_X7_count, m_den, l0, Value.category, s_seq, s_if, s_st, s_ret, s_retz, s_retv, s_skip, s_sc, s_inc, s_call, e_c, e_li, e_lr, e_lj, e_un, e_bin, e_if, e_b, b_not, b_and, b_or, b_of, e_call, a_recv, a_snoc, a_nil, prI, prJ, prR, e_gi, e_gr, e_ai, e_ar, s_as, s_aop, s_pf, s_pfz, s_fop, l_set, l_ok, e_div, e_rem, e_len, s_tab, g_103_0, rd_104_2, hT.1.2.2.1]
    · rw [show nI 7 = 7 from rfl]
      refine ⟨sumI 10 (nbz (f 5)), f, f, ?_, ?_, h⟩
      · simp [D_X6_count, S_X6_count, m_den, l0, Value.category, s_seq, s_if, s_st, s_ret, s_retz, s_retv, s_skip, s_sc, s_inc, s_call, e_c, e_li, e_lr, e_lj, e_un, e_bin, e_if, e_b, b_not, b_and, b_or, b_of, e_call, a_recv, a_snoc, a_nil, prI, prJ, prR, e_gi, e_gr, e_ai, e_ar, s_as, s_aop, s_pf, s_pfz, s_fop, l_set, l_ok, e_div, e_rem, e_len, s_tab, g_0_0, g_1_6, X6_nbz5]
      · have e : sumI 10 (nbz (fun c => f 104 (725 + c))) = sumI 10 (nbz (f 5)) := sumI_congr fun c hc => by show (if 0 ≤ f 104 (725 + c) then (1 : Int32) else 0) = _; rw [hT.2.2.2.2.1 c hc]; rfl
        simp [D_X7_count, S_X7_count, m_den, l0, Value.category, s_seq, s_if, s_st, s_ret, s_retz, s_retv, s_skip, s_sc, s_inc, s_call, e_c, e_li, e_lr, e_lj, e_un, e_bin, e_if, e_b, b_not, b_and, b_or, b_of, e_call, a_recv, a_snoc, a_nil, prI, prJ, prR, e_gi, e_gr, e_ai, e_ar, s_as, s_aop, s_pf, s_pfz, s_fop, l_set, l_ok, e_div, e_rem, e_len, s_tab, X7_count_W2, e]
  · have q : w.toInt < 0 ∨ 7 < w.toInt := by
      by_cases c1 : 0 ≤ w
      · right
        have c2 := Int32.lt_iff_toInt_lt.mp (Int32.not_le.mp (fun c2 => hc ⟨c1, c2⟩))
        have e : (7 : Int32).toInt = 7 := by decide
        omega
      · left
        have c2 := Int32.lt_iff_toInt_lt.mp (Int32.not_le.mp c1)
        have e : (0 : Int32).toInt = 0 := by decide
        omega
    refine agr_find (j := 0) (v := -1000001) h ?_ (fun g _ => ?_)
    · simp [D_X6_count, S_X6_count, m_den, l0, Value.category, s_seq, s_if, s_st, s_ret, s_retz, s_retv, s_skip, s_sc, s_inc, s_call, e_c, e_li, e_lr, e_lj, e_un, e_bin, e_if, e_b, b_not, b_and, b_or, b_of, e_call, a_recv, a_snoc, a_nil, prI, prJ, prR, e_gi, e_gr, e_ai, e_ar, s_as, s_aop, s_pf, s_pfz, s_fop, l_set, l_ok, e_div, e_rem, e_len, s_tab, rc_0, X6_fin_0, q]
    · simp [D_X7_count, S_X7_count, m_den, l0, Value.category, s_seq, s_if, s_st, s_ret, s_retz, s_retv, s_skip, s_sc, s_inc, s_call, e_c, e_li, e_lr, e_lj, e_un, e_bin, e_if, e_b, b_not, b_and, b_or, b_of, e_call, a_recv, a_snoc, a_nil, prI, prJ, prR, e_gi, e_gr, e_ai, e_ar, s_as, s_aop, s_pf, s_pfz, s_fop, l_set, l_ok, e_div, e_rem, e_len, s_tab, rc_103, X7_fin_0, q]
/-! thickest -/
def bst (S : Nat → Int32) (n : Nat) : Nat := match n with
  | 0 => 0
  | n + 1 => if S (bst S n) < S (n + 1) then n + 1 else bst S n
theorem bst_le (S : Nat → Int32) (n : Nat) : bst S n ≤ n := by
  induction n with
  | zero => exact Nat.le_refl 0
  | succ n ih =>
    unfold bst
    by_cases c : S (bst S n) < S (n + 1)
    · rw [if_pos c]; exact Nat.le_refl _
    · rw [if_neg c]; omega
def alo (f : FN) (m : Nat) (c : Nat) : Int32 := sumI m (fun k => f (chId 1 k + 2) c)
theorem X5_aloftOver (f : FN) {m c : Nat} (hm : m ≤ 8) (hc : c < 36) (em : f 1 2 = nI m) : D_X5_aloftOver [.ref 1, .int (nI c)] (memOf f) = some (.int (alo f m c), memOf f) := by
  have W : W_X5_aloftOver_1 [.ref 1, .int (nI c), .int 0, .int 0] (memOf f) = some (.inl ([.ref 1, .int (nI c), .int (alo f m c), .int (nI m)], memOf f)) := by
    refine while_count (fun j => ([.ref 1, .int (nI c), .int (sumI j (fun k => f (chId 1 k + 2) c)), .int (nI j)], memOf f)) m (by unfold FU; omega) (fun k hk => ?_) (fun k hk => ?_) ?_
    · have e : nI k < nI m := (nI_lt_iff (by omega) (by omega)).mpr hk
      simp [WB_X5_aloftOver_1, m_den, l0, Value.category, s_seq, s_if, s_st, s_ret, s_retz, s_retv, s_skip, s_sc, s_inc, s_call, e_c, e_li, e_lr, e_lj, e_un, e_bin, e_if, e_b, b_not, b_and, b_or, b_of, e_call, a_recv, a_snoc, a_nil, prI, prJ, prR, e_gi, e_gr, e_ai, e_ar, s_as, s_aop, s_pf, s_pfz, s_fop, l_set, l_ok, e_div, e_rem, e_len, s_tab, g_1_2, em, e]
    · have h8 : k < 8 := by omega
      have hC := isCh_town (b := 1) (Or.inl rfl) h8
      simp [WS_X5_aloftOver_1, m_den, l0, Value.category, s_seq, s_if, s_st, s_ret, s_retz, s_retv, s_skip, s_sc, s_inc, s_call, e_c, e_li, e_lr, e_lj, e_un, e_bin, e_if, e_b, b_not, b_and, b_or, b_of, e_call, a_recv, a_snoc, a_nil, prI, prJ, prR, e_gi, e_gr, e_ai, e_ar, s_as, s_aop, s_pf, s_pfz, s_fop, l_set, l_ok, e_div, e_rem, e_len, s_tab, g_1_7, rr_6 f h8, gch1 f hC, rda f hC hc, nI_next, sumI]
    · have e : ¬ nI m < nI m := Int32.lt_irrefl
      simp [WB_X5_aloftOver_1, m_den, l0, Value.category, s_seq, s_if, s_st, s_ret, s_retz, s_retv, s_skip, s_sc, s_inc, s_call, e_c, e_li, e_lr, e_lj, e_un, e_bin, e_if, e_b, b_not, b_and, b_or, b_of, e_call, a_recv, a_snoc, a_nil, prI, prJ, prR, e_gi, e_gr, e_ai, e_ar, s_as, s_aop, s_pf, s_pfz, s_fop, l_set, l_ok, e_div, e_rem, e_len, s_tab, g_1_2, em, e]
  simp [D_X5_aloftOver, S_X5_aloftOver, m_den, l0, Value.category, s_seq, s_if, s_st, s_ret, s_retz, s_retv, s_skip, s_sc, s_inc, s_call, e_c, e_li, e_lr, e_lj, e_un, e_bin, e_if, e_b, b_not, b_and, b_or, b_of, e_call, a_recv, a_snoc, a_nil, prI, prJ, prR, e_gi, e_gr, e_ai, e_ar, s_as, s_aop, s_pf, s_pfz, s_fop, l_set, l_ok, e_div, e_rem, e_len, s_tab, W]
theorem X6_thickest (f : FN) {m : Nat} (hm : m ≤ 8) (em : f 1 2 = nI m) (h0 : 0 ≤ alo f m 0) : D_X6_thickest [.ref 0] (memOf f) = some (.int (nI (bst (alo f m) 35)), memOf f) := by
  have W : W_X6_thickest_1 [.ref 0, .int 0, .int 0, .int 0] (memOf f) = some (.inl ([.ref 0, .int (nI (bst (alo f m) 35)), .int (alo f m (bst (alo f m) 35)), .int (nI 36)], memOf f)) := by
    refine while_count (fun j => ([.ref 0, .int (nI (bst (alo f m) (j - 1))), .int (if j = 0 then 0 else alo f m (bst (alo f m) (j - 1))), .int (nI j)], memOf f)) 36 (by unfold FU; omega) (fun k hk => ?_) (fun k hk => ?_) ?_
    · have e : nI k < (36 : Int32) := lt_lit (n := 36) hk (by omega)
      simp [WB_X6_thickest_1, m_den, l0, Value.category, s_seq, s_if, s_st, s_ret, s_retz, s_retv, s_skip, s_sc, s_inc, s_call, e_c, e_li, e_lr, e_lj, e_un, e_bin, e_if, e_b, b_not, b_and, b_or, b_of, e_call, a_recv, a_snoc, a_nil, prI, prJ, prR, e_gi, e_gr, e_ai, e_ar, s_as, s_aop, s_pf, s_pfz, s_fop, l_set, l_ok, e_div, e_rem, e_len, s_tab, e]
    · cases k with
      | zero =>
        have r := X5_aloftOver f hm (show 0 < 36 by omega) em
        by_cases c : 0 < alo f m 0
        · simp [WS_X6_thickest_1, m_den, l0, Value.category, s_seq, s_if, s_st, s_ret, s_retz, s_retv, s_skip, s_sc, s_inc, s_call, e_c, e_li, e_lr, e_lj, e_un, e_bin, e_if, e_b, b_not, b_and, b_or, b_of, e_call, a_recv, a_snoc, a_nil, prI, prJ, prR, e_gi, e_gr, e_ai, e_ar, s_as, s_aop, s_pf, s_pfz, s_fop, l_set, l_ok, e_div, e_rem, e_len, s_tab, g_0_0, rc_1, r, c, nI_next, bst]
        · have c2 : alo f m 0 = 0 := Int32.le_antisymm (Int32.not_lt.mp c) h0
          simp [WS_X6_thickest_1, m_den, l0, Value.category, s_seq, s_if, s_st, s_ret, s_retz, s_retv, s_skip, s_sc, s_inc, s_call, e_c, e_li, e_lr, e_lj, e_un, e_bin, e_if, e_b, b_not, b_and, b_or, b_of, e_call, a_recv, a_snoc, a_nil, prI, prJ, prR, e_gi, e_gr, e_ai, e_ar, s_as, s_aop, s_pf, s_pfz, s_fop, l_set, l_ok, e_div, e_rem, e_len, s_tab, g_0_0, rc_1, r, c2, nI_next, bst]
      | succ k =>
        have r := X5_aloftOver f hm hk em
        by_cases c : alo f m (bst (alo f m) k) < alo f m (k + 1)
        · simp [WS_X6_thickest_1, m_den, l0, Value.category, s_seq, s_if, s_st, s_ret, s_retz, s_retv, s_skip, s_sc, s_inc, s_call, e_c, e_li, e_lr, e_lj, e_un, e_bin, e_if, e_b, b_not, b_and, b_or, b_of, e_call, a_recv, a_snoc, a_nil, prI, prJ, prR, e_gi, e_gr, e_ai, e_ar, s_as, s_aop, s_pf, s_pfz, s_fop, l_set, l_ok, e_div, e_rem, e_len, s_tab, g_0_0, rc_1, r, c, nI_next, bst]
        · simp [WS_X6_thickest_1, m_den, l0, Value.category, s_seq, s_if, s_st, s_ret, s_retz, s_retv, s_skip, s_sc, s_inc, s_call, e_c, e_li, e_lr, e_lj, e_un, e_bin, e_if, e_b, b_not, b_and, b_or, b_of, e_call, a_recv, a_snoc, a_nil, prI, prJ, prR, e_gi, e_gr, e_ai, e_ar, s_as, s_aop, s_pf, s_pfz, s_fop, l_set, l_ok, e_div, e_rem, e_len, s_tab, g_0_0, rc_1, r, c, nI_next, bst]
    · have e : ¬ nI 36 < (36 : Int32) := nlt_lit (n := 36) (by omega)
      simp [WB_X6_thickest_1, m_den, l0, Value.category, s_seq, s_if, s_st, s_ret, s_retz, s_retv, s_skip, s_sc, s_inc, s_call, e_c, e_li, e_lr, e_lj, e_un, e_bin, e_if, e_b, b_not, b_and, b_or, b_of, e_call, a_recv, a_snoc, a_nil, prI, prJ, prR, e_gi, e_gr, e_ai, e_ar, s_as, s_aop, s_pf, s_pfz, s_fop, l_set, l_ok, e_div, e_rem, e_len, s_tab, e]
  simp [D_X6_thickest, S_X6_thickest, m_den, l0, Value.category, s_seq, s_if, s_st, s_ret, s_retz, s_retv, s_skip, s_sc, s_inc, s_call, e_c, e_li, e_lr, e_lj, e_un, e_bin, e_if, e_b, b_not, b_and, b_or, b_of, e_call, a_recv, a_snoc, a_nil, prI, prJ, prR, e_gi, e_gr, e_ai, e_ar, s_as, s_aop, s_pf, s_pfz, s_fop, l_set, l_ok, e_div, e_rem, e_len, s_tab, W]
theorem X7_thickest (f : FN) {m : Nat} (hm : m ≤ 8) (em : f 104 1 = nI m) {S : Nat → Int32} (hS : ∀ c, c < 36 → sumI m (smS f 125 (-1) (nI c)) = S c) : D_X7_thickest [.ref 103] (memOf f) = some (.int (nI (bst S 35)), memOf f) := by
  have r : ∀ c, c < 36 → D_X7_sums [.ref 103, .int 125, .int (-1), .int (nI c)] (memOf f) = some (.int (S c), memOf f) := fun c hc => by
    rw [← hS c hc]
    exact X7_sums f (w := 125) (by omega) hm em (-1) (nI c)
  have W : W_X7_thickest_1 [.ref 103, .int 0, .int 1] (memOf f) = some (.inl ([.ref 103, .int (nI (bst S 35)), .int (nI 36)], memOf f)) := by
    refine while_count (fun j => ([.ref 103, .int (nI (bst S j)), .int (nI (j + 1))], memOf f)) 35 (by unfold FU; omega) (fun k hk => ?_) (fun k hk => ?_) ?_
    · have e : nI (k + 1) < (36 : Int32) := lt_lit (n := 36) (by omega) (by omega)
      simp [WB_X7_thickest_1, m_den, l0, Value.category, s_seq, s_if, s_st, s_ret, s_retz, s_retv, s_skip, s_sc, s_inc, s_call, e_c, e_li, e_lr, e_lj, e_un, e_bin, e_if, e_b, b_not, b_and, b_or, b_of, e_call, a_recv, a_snoc, a_nil, prI, prJ, prR, e_gi, e_gr, e_ai, e_ar, s_as, s_aop, s_pf, s_pfz, s_fop, l_set, l_ok, e_div, e_rem, e_len, s_tab, e]
    · have r1 := r (k + 1) (by omega)
      have r2 := r (bst S k) (by have := bst_le S k; omega)
      by_cases c : S (bst S k) < S (k + 1)
      · simp [WS_X7_thickest_1, m_den, l0, Value.category, s_seq, s_if, s_st, s_ret, s_retz, s_retv, s_skip, s_sc, s_inc, s_call, e_c, e_li, e_lr, e_lj, e_un, e_bin, e_if, e_b, b_not, b_and, b_or, b_of, e_call, a_recv, a_snoc, a_nil, prI, prJ, prR, e_gi, e_gr, e_ai, e_ar, s_as, s_aop, s_pf, s_pfz, s_fop, l_set, l_ok, e_div, e_rem, e_len, s_tab, rc_103, r1, r2, c, nI_next, bst]
      · simp [WS_X7_thickest_1, m_den, l0, Value.category, s_seq, s_if, s_st, s_ret, s_retz, s_retv, s_skip, s_sc, s_inc, s_call, e_c, e_li, e_lr, e_lj, e_un, e_bin, e_if, e_b, b_not, b_and, b_or, b_of, e_call, a_recv, a_snoc, a_nil, prI, prJ, prR, e_gi, e_gr, e_ai, e_ar, s_as, s_aop, s_pf, s_pfz, s_fop, l_set, l_ok, e_div, e_rem, e_len, s_tab, rc_103, r1, r2, c, nI_next, bst]
    · have e : ¬ nI 36 < (36 : Int32) := nlt_lit (n := 36) (by omega)
      simp [WB_X7_thickest_1, m_den, l0, Value.category, s_seq, s_if, s_st, s_ret, s_retz, s_retv, s_skip, s_sc, s_inc, s_call, e_c, e_li, e_lr, e_lj, e_un, e_bin, e_if, e_b, b_not, b_and, b_or, b_of, e_call, a_recv, a_snoc, a_nil, prI, prJ, prR, e_gi, e_gr, e_ai, e_ar, s_as, s_aop, s_pf, s_pfz, s_fop, l_set, l_ok, e_div, e_rem, e_len, s_tab, e]
  simp [D_X7_thickest, S_X7_thickest, m_den, l0, Value.category, s_seq, s_if, s_st, s_ret, s_retz, s_retv, s_skip, s_sc, s_inc, s_call, e_c, e_li, e_lr, e_lj, e_un, e_bin, e_if, e_b, b_not, b_and, b_or, b_of, e_call, a_recv, a_snoc, a_nil, prI, prJ, prR, e_gi, e_gr, e_ai, e_ar, s_as, s_aop, s_pf, s_pfz, s_fop, l_set, l_ok, e_div, e_rem, e_len, s_tab, W]
theorem csI_le {n : Nat} {g : Nat → Nat} {b : Nat} (h : ∀ i, i < n → g i ≤ b) : csI n g ≤ n * b := by
  induction n with
  | zero => exact Nat.zero_le _
  | succ n ih =>
    have h1 := ih (fun i hi => h i (by omega))
    have h2 := h n (by omega)
    show csI n g + g n ≤ _
    rw [Nat.succ_mul]
    omega
theorem csI_at {n i : Nat} (g : Nat → Nat) (h : i < n) : g i ≤ csI n g := by
  induction n with
  | zero => omega
  | succ n ih =>
    show g i ≤ csI n g + g n
    by_cases e : i = n
    · subst e; omega
    · have := ih (by omega); omega
theorem sumI_nI {n : Nat} {g : Nat → Int32} {G : Nat → Nat} (h : ∀ i, i < n → g i = nI (G i)) : sumI n g = nI (csI n G) := by
  induction n with
  | zero => rfl
  | succ n ih =>
    show sumI n g + g n = nI (csI n G + G n)
    rw [ih (fun i hi => h i (by omega)), h n (by omega), nI_a]
theorem agr_thickest {f : FN} (h : REL f) : AGR D_X6_thickest D_X7_thickest [] f := by
  obtain ⟨⟨m, hT, hV⟩, -⟩ := id h
  have em : f 1 2 = nI m := hT.1.2.2.2.1
  have em' : f 104 1 = nI m := hT.1.2.1.trans em
  have hm := hT.1.2.2.2.2
  obtain ⟨⟨hh, b1, b2, A, S, O, T, B, a3, a4⟩, -⟩ := id hV
  have h0 : 0 ≤ alo f m 0 := by
    have e : alo f m 0 = nI (csI m (fun k => A k 0)) := sumI_nI fun k hk => ((hT.2.2.2.2.2.1 k hk).2.1 0 (by omega)).symm.trans ((a3 k hk).1 0 (by omega))
    rw [e]
    have hb : ∀ k, k < m → A k 0 ≤ 203 * 9999 := fun k hk => by
      obtain ⟨-, -, -, -, -, q6, q7⟩ := a3 k hk
      have := csI_at (A k) (show 0 < 36 by omega)
      have : 203 * hh ≤ 203 * 9999 := Nat.mul_le_mul_left _ b1
      omega
    have := csI_le hb
    have : m * (203 * 9999) ≤ 8 * (203 * 9999) := Nat.mul_le_mul_right _ hm
    exact nI_pos' (by omega)
  refine ⟨_, f, f, X6_thickest f hm em h0, ?_, h⟩
  refine X7_thickest f hm em' (fun c hc => ?_)
  have e2 : nI c ≤ (35 : Int32) := le_lit (n := 35) (by omega) (by omega)
  rw [sums_all f 125 m e2]
  refine sumI_congr fun k hk => ?_
  unfold overN
  rw [if_pos (nI_pos' (by omega)), nI_clamp (by omega)]
  exact (hT.2.2.2.2.2.1 k hk).2.1 c hc
