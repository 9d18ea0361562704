/-! gains -/
theorem updT_same (TRS : Nat → Nat → Nat) (k : Nat) : updT TRS k (TRS k) = TRS := by
  funext i; unfold updT
  by_cases c : i = k
  · rw [if_pos c, c]
  · rw [if_neg c]
def gaV (A B : Nat → Int32) (o : Nat) : Int32 := if B o < A o then (1 : Int32) <<< (nI o &&& 31) else 0
theorem X6_gains_W (f : FN) (k n hi : Int32) {A B : Nat → Int32} (h7 : ∀ o, o < 6 → f 87 o = A o) (h9 : ∀ o, o < 6 → f 90 o = B o) : W_X6_gains_1 [.ref 0, .int k, .int n, .int hi, .int 0, .int 0] (memOf f) = some (.inl ([.ref 0, .int k, .int n, .int hi, .int (orI 6 (gaV A B)), .int (nI 6)], memOf f)) := by
  have key := while_count (b := WB_X6_gains_1) (s := WS_X6_gains_1) (fun i => ([.ref 0, .int k, .int n, .int hi, .int (orI i (gaV A B)), .int (nI i)], memOf f)) 6 (by unfold FU; omega) (fun i hi => ?_) (fun i hi => ?_) ?_
  · exact key
  · have e : nI i < (6 : Int32) := lt_lit (n := 6) hi (by omega)
    simp [WB_X6_gains_1, m_den, l0, Value.category, s_seq, s_if, s_st, s_ret, s_retz, s_retv, s_skip, s_sc, s_inc, s_call, e_c, e_li, e_lr, e_lj, e_un, e_bin, e_if, e_b, b_not, b_and, b_or, b_of, e_call, a_recv, a_snoc, a_nil, prI, prJ, prR, e_gi, e_gr, e_ai, e_ar, s_as, s_aop, s_pf, s_pfz, s_fop, l_set, l_ok, e_div, e_rem, e_len, s_tab, e]
  · have r7 := rd_87 f hi
    rw [h7 i hi] at r7
    have r9 := rd_90 f hi
    rw [h9 i hi] at r9
    by_cases c : B i < A i
    · simp [WS_X6_gains_1, m_den, l0, Value.category, s_seq, s_if, s_st, s_ret, s_retz, s_retv, s_skip, s_sc, s_inc, s_call, e_c, e_li, e_lr, e_lj, e_un, e_bin, e_if, e_b, b_not, b_and, b_or, b_of, e_call, a_recv, a_snoc, a_nil, prI, prJ, prR, e_gi, e_gr, e_ai, e_ar, s_as, s_aop, s_pf, s_pfz, s_fop, l_set, l_ok, e_div, e_rem, e_len, s_tab, g_0_7, g_86_1, g_0_8, r7, r9, c, nI_next, orI, gaV]
    · simp [WS_X6_gains_1, m_den, l0, Value.category, s_seq, s_if, s_st, s_ret, s_retz, s_retv, s_skip, s_sc, s_inc, s_call, e_c, e_li, e_lr, e_lj, e_un, e_bin, e_if, e_b, b_not, b_and, b_or, b_of, e_call, a_recv, a_snoc, a_nil, prI, prJ, prR, e_gi, e_gr, e_ai, e_ar, s_as, s_aop, s_pf, s_pfz, s_fop, l_set, l_ok, e_div, e_rem, e_len, s_tab, g_0_7, g_86_1, g_0_8, r7, r9, c, nI_next, orI, gaV]
  · have e : ¬ nI 6 < (6 : Int32) := nlt_lit (n := 6) (by omega)
    simp [WB_X6_gains_1, m_den, l0, Value.category, s_seq, s_if, s_st, s_ret, s_retz, s_retv, s_skip, s_sc, s_inc, s_call, e_c, e_li, e_lr, e_lj, e_un, e_bin, e_if, e_b, b_not, b_and, b_or, b_of, e_call, a_recv, a_snoc, a_nil, prI, prJ, prR, e_gi, e_gr, e_ai, e_ar, s_as, s_aop, s_pf, s_pfz, s_fop, l_set, l_ok, e_div, e_rem, e_len, s_tab, e]
theorem X7_gains_W1 (f : FN) (k n s : Int32) : ∃ g, W_X7_gains_1 [.ref 103, .int k, .int n, .int s, .int 0] (memOf f) = some (.inl ([.ref 103, .int k, .int n, .int s, .int (nI 6)], memOf g)) ∧ (∀ x, x ≠ 110 → g x = f x) ∧ ∀ o, o < 6 → g 110 o = f 104 (119 + o) := by
  have key := while_rel (b := WB_X7_gains_1) (s := WS_X7_gains_1) (fun j => [.ref 103, .int k, .int n, .int s, .int (nI j)]) (fun j g => (∀ x, x ≠ 110 → g x = f x) ∧ ∀ o, o < j → g 110 o = f 104 (119 + o)) 6 (by unfold FU; omega) (fun j g hj hI => ?_) (fun j g hj hI => ?_) (fun g hI => ?_) (f := f) ⟨fun _ _ => rfl, fun o ho => absurd ho (by omega)⟩
  · exact key
  · have e : nI j < (6 : Int32) := lt_lit (n := 6) hj (by omega)
    simp [WB_X7_gains_1, m_den, l0, Value.category, s_seq, s_if, s_st, s_ret, s_retz, s_retv, s_skip, s_sc, s_inc, s_call, e_c, e_li, e_lr, e_lj, e_un, e_bin, e_if, e_b, b_not, b_and, b_or, b_of, e_call, a_recv, a_snoc, a_nil, prI, prJ, prR, e_gi, e_gr, e_ai, e_ar, s_as, s_aop, s_pf, s_pfz, s_fop, l_set, l_ok, e_div, e_rem, e_len, s_tab, e]
  · have i1 : (119 : Int32) + nI j = nI (119 + j) := nI_a 119 j
    refine ⟨row g 110 (upd (g 110) j (g 104 (119 + j))), ?_, fun x hx => by rw [row_ne _ _ hx]; exact hI.1 x hx, fun o ho => ?_⟩
    · simp [WS_X7_gains_1, m_den, l0, Value.category, s_seq, s_if, s_st, s_ret, s_retz, s_retv, s_skip, s_sc, s_inc, s_call, e_c, e_li, e_lr, e_lj, e_un, e_bin, e_if, e_b, b_not, b_and, b_or, b_of, e_call, a_recv, a_snoc, a_nil, prI, prJ, prR, e_gi, e_gr, e_ai, e_ar, s_as, s_aop, s_pf, s_pfz, s_fop, l_set, l_ok, e_div, e_rem, e_len, s_tab, g_103_0, g_103_10, i1, rd_104 g (show 119 + j < 735 by omega), wr_110 g hj, nI_next]
    · rw [row_self]
      by_cases e : o = j
      · subst e; rw [upd_self, hI.1 104 (by omega)]
      · rw [upd_ne _ _ e]; exact hI.2 o (by omega)
  · have e : ¬ nI 6 < (6 : Int32) := nlt_lit (n := 6) (by omega)
    simp [WB_X7_gains_1, m_den, l0, Value.category, s_seq, s_if, s_st, s_ret, s_retz, s_retv, s_skip, s_sc, s_inc, s_call, e_c, e_li, e_lr, e_lj, e_un, e_bin, e_if, e_b, b_not, b_and, b_or, b_of, e_call, a_recv, a_snoc, a_nil, prI, prJ, prR, e_gi, e_gr, e_ai, e_ar, s_as, s_aop, s_pf, s_pfz, s_fop, l_set, l_ok, e_div, e_rem, e_len, s_tab, e]
theorem X7_gains_W2 (f : FN) (k n s : Int32) {A B : Nat → Int32} (h4 : ∀ o, o < 6 → f 104 (119 + o) = A o) (h1 : ∀ o, o < 6 → f 110 o = B o) : W_X7_gains_2 [.ref 103, .int k, .int n, .int s, .int 0, .int 0] (memOf f) = some (.inl ([.ref 103, .int k, .int n, .int s, .int (orI 6 (gaV A B)), .int (nI 6)], memOf f)) := by
  have key := while_count (b := WB_X7_gains_2) (s := WS_X7_gains_2) (fun i => ([.ref 103, .int k, .int n, .int s, .int (orI i (gaV A B)), .int (nI i)], memOf f)) 6 (by unfold FU; omega) (fun i hi => ?_) (fun i hi => ?_) ?_
  · exact key
  · have e : nI i < (6 : Int32) := lt_lit (n := 6) hi (by omega)
    simp [WB_X7_gains_2, m_den, l0, Value.category, s_seq, s_if, s_st, s_ret, s_retz, s_retv, s_skip, s_sc, s_inc, s_call, e_c, e_li, e_lr, e_lj, e_un, e_bin, e_if, e_b, b_not, b_and, b_or, b_of, e_call, a_recv, a_snoc, a_nil, prI, prJ, prR, e_gi, e_gr, e_ai, e_ar, s_as, s_aop, s_pf, s_pfz, s_fop, l_set, l_ok, e_div, e_rem, e_len, s_tab, e]
  · have i1 : (119 : Int32) + nI i = nI (119 + i) := nI_a 119 i
    have r4 := rd_104 f (show 119 + i < 735 by omega)
    rw [h4 i hi] at r4
    have r1 := rd_110 f hi
    rw [h1 i hi] at r1
    by_cases c : B i < A i
    · simp [WS_X7_gains_2, m_den, l0, Value.category, s_seq, s_if, s_st, s_ret, s_retz, s_retv, s_skip, s_sc, s_inc, s_call, e_c, e_li, e_lr, e_lj, e_un, e_bin, e_if, e_b, b_not, b_and, b_or, b_of, e_call, a_recv, a_snoc, a_nil, prI, prJ, prR, e_gi, e_gr, e_ai, e_ar, s_as, s_aop, s_pf, s_pfz, s_fop, l_set, l_ok, e_div, e_rem, e_len, s_tab, g_103_0, g_103_10, i1, r4, r1, c, nI_next, orI, gaV]
    · simp [WS_X7_gains_2, m_den, l0, Value.category, s_seq, s_if, s_st, s_ret, s_retz, s_retv, s_skip, s_sc, s_inc, s_call, e_c, e_li, e_lr, e_lj, e_un, e_bin, e_if, e_b, b_not, b_and, b_or, b_of, e_call, a_recv, a_snoc, a_nil, prI, prJ, prR, e_gi, e_gr, e_ai, e_ar, s_as, s_aop, s_pf, s_pfz, s_fop, l_set, l_ok, e_div, e_rem, e_len, s_tab, g_103_0, g_103_10, i1, r4, r1, c, nI_next, orI, gaV]
  · have e : ¬ nI 6 < (6 : Int32) := nlt_lit (n := 6) (by omega)
    simp [WB_X7_gains_2, m_den, l0, Value.category, s_seq, s_if, s_st, s_ret, s_retz, s_retv, s_skip, s_sc, s_inc, s_call, e_c, e_li, e_lr, e_lj, e_un, e_bin, e_if, e_b, b_not, b_and, b_or, b_of, e_call, a_recv, a_snoc, a_nil, prI, prJ, prR, e_gi, e_gr, e_ai, e_ar, s_as, s_aop, s_pf, s_pfz, s_fop, l_set, l_ok, e_div, e_rem, e_len, s_tab, e]
theorem X6_gains_no0 (f : FN) {c n : Int32} (h : ¬ (0 ≤ c ∧ c ≤ f 1 2 - 1 ∧ 1 ≤ n ∧ n ≤ 24)) : D_X6_gains [.ref 0, .int c, .int n] (memOf f) = some (.int (-1000001), memOf (row f 81 (upd (f 81) 0 (f 81 0 + 1)))) := by
  by_cases h1 : 0 ≤ c
  · by_cases h2 : c ≤ f 1 2 - 1
    · by_cases h3 : 1 ≤ n
      · have h4 : ¬ (n ≤ 24) := fun q => h ⟨h1, h2, h3, q⟩
        simp [D_X6_gains, S_X6_gains, m_den, l0, Value.category, s_seq, s_if, s_st, s_ret, s_retz, s_retv, s_skip, s_sc, s_inc, s_call, e_c, e_li, e_lr, e_lj, e_un, e_bin, e_if, e_b, b_not, b_and, b_or, b_of, e_call, a_recv, a_snoc, a_nil, prI, prJ, prR, e_gi, e_gr, e_ai, e_ar, s_as, s_aop, s_pf, s_pfz, s_fop, l_set, l_ok, e_div, e_rem, e_len, s_tab, X6_isChimney, X6_isIn, rc_0, X6_fin_0, h1, h2, h3, h4]
      · simp [D_X6_gains, S_X6_gains, m_den, l0, Value.category, s_seq, s_if, s_st, s_ret, s_retz, s_retv, s_skip, s_sc, s_inc, s_call, e_c, e_li, e_lr, e_lj, e_un, e_bin, e_if, e_b, b_not, b_and, b_or, b_of, e_call, a_recv, a_snoc, a_nil, prI, prJ, prR, e_gi, e_gr, e_ai, e_ar, s_as, s_aop, s_pf, s_pfz, s_fop, l_set, l_ok, e_div, e_rem, e_len, s_tab, X6_isChimney, X6_isIn, rc_0, X6_fin_0, h1, h2, h3]
    · simp [D_X6_gains, S_X6_gains, m_den, l0, Value.category, s_seq, s_if, s_st, s_ret, s_retz, s_retv, s_skip, s_sc, s_inc, s_call, e_c, e_li, e_lr, e_lj, e_un, e_bin, e_if, e_b, b_not, b_and, b_or, b_of, e_call, a_recv, a_snoc, a_nil, prI, prJ, prR, e_gi, e_gr, e_ai, e_ar, s_as, s_aop, s_pf, s_pfz, s_fop, l_set, l_ok, e_div, e_rem, e_len, s_tab, X6_isChimney, X6_isIn, rc_0, X6_fin_0, h1, h2]
  · simp [D_X6_gains, S_X6_gains, m_den, l0, Value.category, s_seq, s_if, s_st, s_ret, s_retz, s_retv, s_skip, s_sc, s_inc, s_call, e_c, e_li, e_lr, e_lj, e_un, e_bin, e_if, e_b, b_not, b_and, b_or, b_of, e_call, a_recv, a_snoc, a_nil, prI, prJ, prR, e_gi, e_gr, e_ai, e_ar, s_as, s_aop, s_pf, s_pfz, s_fop, l_set, l_ok, e_div, e_rem, e_len, s_tab, X6_isChimney, X6_isIn, rc_0, X6_fin_0, h1]
theorem X7_gains_no0 (f : FN) {c n : Int32} (h : ¬ (0 ≤ c ∧ c ≤ f 104 1 - 1 ∧ 1 ≤ n ∧ n ≤ 24)) : D_X7_gains [.ref 103, .int c, .int n] (memOf f) = some (.int (-1000001), memOf (row f 107 (upd (f 107) 0 (f 107 0 + 1)))) := by
  by_cases h1 : 0 ≤ c
  · by_cases h2 : c ≤ f 104 1 - 1
    · by_cases h3 : 1 ≤ n
      · have h4 : ¬ (n ≤ 24) := fun q => h ⟨h1, h2, h3, q⟩
        simp [D_X7_gains, S_X7_gains, m_den, l0, Value.category, s_seq, s_if, s_st, s_ret, s_retz, s_retv, s_skip, s_sc, s_inc, s_call, e_c, e_li, e_lr, e_lj, e_un, e_bin, e_if, e_b, b_not, b_and, b_or, b_of, e_call, a_recv, a_snoc, a_nil, prI, prJ, prR, e_gi, e_gr, e_ai, e_ar, s_as, s_aop, s_pf, s_pfz, s_fop, l_set, l_ok, e_div, e_rem, e_len, s_tab, X7_isChimney, X7_isDay, rc_103, X7_fin_0, h1, h2, h3, h4]
      · simp [D_X7_gains, S_X7_gains, m_den, l0, Value.category, s_seq, s_if, s_st, s_ret, s_retz, s_retv, s_skip, s_sc, s_inc, s_call, e_c, e_li, e_lr, e_lj, e_un, e_bin, e_if, e_b, b_not, b_and, b_or, b_of, e_call, a_recv, a_snoc, a_nil, prI, prJ, prR, e_gi, e_gr, e_ai, e_ar, s_as, s_aop, s_pf, s_pfz, s_fop, l_set, l_ok, e_div, e_rem, e_len, s_tab, X7_isChimney, X7_isDay, rc_103, X7_fin_0, h1, h2, h3]
    · simp [D_X7_gains, S_X7_gains, m_den, l0, Value.category, s_seq, s_if, s_st, s_ret, s_retz, s_retv, s_skip, s_sc, s_inc, s_call, e_c, e_li, e_lr, e_lj, e_un, e_bin, e_if, e_b, b_not, b_and, b_or, b_of, e_call, a_recv, a_snoc, a_nil, prI, prJ, prR, e_gi, e_gr, e_ai, e_ar, s_as, s_aop, s_pf, s_pfz, s_fop, l_set, l_ok, e_div, e_rem, e_len, s_tab, X7_isChimney, X7_isDay, rc_103, X7_fin_0, h1, h2]
  · simp [D_X7_gains, S_X7_gains, m_den, l0, Value.category, s_seq, s_if, s_st, s_ret, s_retz, s_retv, s_skip, s_sc, s_inc, s_call, e_c, e_li, e_lr, e_lj, e_un, e_bin, e_if, e_b, b_not, b_and, b_or, b_of, e_call, a_recv, a_snoc, a_nil, prI, prJ, prR, e_gi, e_gr, e_ai, e_ar, s_as, s_aop, s_pf, s_pfz, s_fop, l_set, l_ok, e_div, e_rem, e_len, s_tab, X7_isChimney, X7_isDay, rc_103, X7_fin_0, h1]
theorem rd_l3 (M : GM) : gm_rd M SPB 3 = some 9 := rd_lim M (j := 3) (by omega)
theorem X6_gains_hi (f : FN) {k n : Nat} (hk : k < 8) (hC : isCh (chId 1 k)) {c : Int32} (a1 : 0 ≤ nI k) (a2 : nI k ≤ f 1 2 - 1) (a5 : 1 ≤ nI n) (a6 : nI n ≤ 24) (t3 : f (chId 1 k + 1) 3 = c) (c9 : 9 ≤ c) : D_X6_gains [.ref 0, .int (nI k), .int (nI n)] (memOf f) = some (.int (-1000005), memOf (row f 81 (upd (f 81) 4 (f 81 4 + 1)))) := by
  simp [D_X6_gains, S_X6_gains, m_den, l0, Value.category, s_seq, s_if, s_st, s_ret, s_retz, s_retv, s_skip, s_sc, s_inc, s_call, e_c, e_li, e_lr, e_lj, e_un, e_bin, e_if, e_b, b_not, b_and, b_or, b_of, e_call, a_recv, a_snoc, a_nil, prI, prJ, prR, e_gi, e_gr, e_ai, e_ar, s_as, s_aop, s_pf, s_pfz, s_fop, l_set, l_ok, e_div, e_rem, e_len, s_tab, X6_isChimney, X6_isIn, a1, a2, a5, a6, rc_0, g_0_0, g_1_7, rr_6 f hk, gch0 f hC, rdt3 f hC, t3, rd_l3, c9, X6_fin_4]
theorem X6_gains_far (f : FN) {k n : Nat} (hk : k < 8) (hC : isCh (chId 1 k)) {c : Int32} (a1 : 0 ≤ nI k) (a2 : nI k ≤ f 1 2 - 1) (a5 : 1 ≤ nI n) (a6 : nI n ≤ 24) (t3 : f (chId 1 k + 1) 3 = c) (c9 : ¬ 9 ≤ c) (hN : ¬ f 1 0 + nI n ≤ 9999) : D_X6_gains [.ref 0, .int (nI k), .int (nI n)] (memOf f) = some (.int (-1000005), memOf (row f 81 (upd (f 81) 4 (f 81 4 + 1)))) := by
  simp [D_X6_gains, S_X6_gains, m_den, l0, Value.category, s_seq, s_if, s_st, s_ret, s_retz, s_retv, s_skip, s_sc, s_inc, s_call, e_c, e_li, e_lr, e_lj, e_un, e_bin, e_if, e_b, b_not, b_and, b_or, b_of, e_call, a_recv, a_snoc, a_nil, prI, prJ, prR, e_gi, e_gr, e_ai, e_ar, s_as, s_aop, s_pf, s_pfz, s_fop, l_set, l_ok, e_div, e_rem, e_len, s_tab, X6_isChimney, X6_isIn, a1, a2, a5, a6, rc_0, g_0_0, g_1_7, rr_6 f hk, gch0 f hC, rdt3 f hC, t3, rd_l3, c9, X6_hasHours, hN, X6_fin_4]
theorem X7_gains_hi (f : FN) {k n : Nat} {c : Int32} (a1 : 0 ≤ nI k) (a2 : nI k ≤ f 104 1 - 1) (a5 : 1 ≤ nI n) (a6 : nI n ≤ 24) (i3 : D_X7_its [.ref 103, .int (nI k), .int 3] (memOf f) = some (.int c, memOf f)) (c9 : (c = 9) = True) : D_X7_gains [.ref 103, .int (nI k), .int (nI n)] (memOf f) = some (.int (-1000005), memOf (row f 107 (upd (f 107) 4 (f 107 4 + 1)))) := by
  simp [D_X7_gains, S_X7_gains, m_den, l0, Value.category, s_seq, s_if, s_st, s_ret, s_retz, s_retv, s_skip, s_sc, s_inc, s_call, e_c, e_li, e_lr, e_lj, e_un, e_bin, e_if, e_b, b_not, b_and, b_or, b_of, e_call, a_recv, a_snoc, a_nil, prI, prJ, prR, e_gi, e_gr, e_ai, e_ar, s_as, s_aop, s_pf, s_pfz, s_fop, l_set, l_ok, e_div, e_rem, e_len, s_tab, X7_isChimney, X7_isDay, a1, a2, a5, a6, rc_103, i3, c9, X7_fin_4]
theorem X7_gains_far (f : FN) {k n : Nat} {c : Int32} (a1 : 0 ≤ nI k) (a2 : nI k ≤ f 104 1 - 1) (a5 : 1 ≤ nI n) (a6 : nI n ≤ 24) (i3 : D_X7_its [.ref 103, .int (nI k), .int 3] (memOf f) = some (.int c, memOf f)) (c9 : ¬ c = 9) (hN : ¬ f 104 0 + nI n ≤ 9999) : D_X7_gains [.ref 103, .int (nI k), .int (nI n)] (memOf f) = some (.int (-1000005), memOf (row f 107 (upd (f 107) 4 (f 107 4 + 1)))) := by
  simp [D_X7_gains, S_X7_gains, m_den, l0, Value.category, s_seq, s_if, s_st, s_ret, s_retz, s_retv, s_skip, s_sc, s_inc, s_call, e_c, e_li, e_lr, e_lj, e_un, e_bin, e_if, e_b, b_not, b_and, b_or, b_of, e_call, a_recv, a_snoc, a_nil, prI, prJ, prR, e_gi, e_gr, e_ai, e_ar, s_as, s_aop, s_pf, s_pfz, s_fop, l_set, l_ok, e_div, e_rem, e_len, s_tab, X7_isChimney, X7_isDay, a1, a2, a5, a6, rc_103, i3, c9, X7_isTooFar, hN, X7_fin_4]
theorem agr_gains {f : FN} (h : REL f) (x u : Int32) : AGR D_X6_gains D_X7_gains [.int x, .int u] f := by
  obtain ⟨⟨m, hT, hV⟩, -⟩ := id h
  obtain ⟨TRS, ro, wd, Q, bo, hh, w⟩ := TW.ex hT hV
  obtain ⟨⟨b1, b2, b3, b4⟩, hS, sp, ro', wd', bk', tk, bn⟩ := id w
  have em' := hS.1.1
  have m8 := hS.1.2
  have hAl := w.A_le
  by_cases hc : 0 ≤ x ∧ x ≤ nI m - 1 ∧ 1 ≤ u ∧ u ≤ 24
  · obtain ⟨k, hk, rfl⟩ := chi_ex ⟨hc.1, hc.2.1⟩ m8
    obtain ⟨a1, a2, a5, a6⟩ := hc
    obtain ⟨n, hn, rfl⟩ := in_ex (n := 24) ⟨Int32.le_trans (by decide) a5, a6⟩ (by omega)
    have hq := hor (h := hh) (n := n) b3 (by omega)
    have hb := (hS.2.1 k hk).2
    have h3 : TRS k 3 ≤ 9 := hb 3 (by omega)
    have hC := isCh_town (b := 1) (c := k) (Or.inl rfl) (by omega)
    have t3 := (sp k hk).2.2 3 (by omega)
    have q9 : (9 ≤ nI (TRS k 3)) = (9 ≤ TRS k 3) := propext (nI_le_iff (a := 9) (b := TRS k 3) (by omega) (by omega))
    have q9' : (nI (TRS k 3) = 9) = (TRS k 3 = 9) := propext (nI_inj (a := TRS k 3) (b := 9) (by omega) (by omega))
    by_cases hok : TRS k 3 < 9 ∧ hh + n ≤ 9999
    · obtain ⟨h9, hN⟩ := hok
      have d9 : (9 ≤ TRS k 3) = False := eq_false (by omega)
      have d9' : (TRS k 3 = 9) = False := eq_false (by omega)
      -- the class
      obtain ⟨f1, P1, P2, P3, P4⟩ := X6_playWith f w hk (j := 3) (by omega) (v := TRS k 3) h3 hN
      rw [updN_same, tlR_0] at P4
      obtain ⟨f2, h2⟩ : ∃ f2, f2 = row f1 90 (put 0 6 (fun j => f1 87 (0 + j)) (f1 90)) := ⟨_, rfl⟩
      have cp : s_cpy (e_gr 3 1 (e_gr 6 7 (e_lr 0))) (e_c (0 : Int32)) (e_gr 6 8 (e_lr 0)) (e_c (0 : Int32)) (e_c (6 : Int32)) [.ref 0, .int (nI k), .int (nI n), .int (nI (TRS k 3))] (memOf f1) = some (.inl ([.ref 0, .int (nI k), .int (nI n), .int (nI (TRS k 3))], memOf f2)) := by
        rw [h2]
        exact s_cpy_of (s := 87) (d := 90) (u := 0) (v := 0) (k := 6) (by simp [e_gr, e_lr, g_0_7, g_86_1]) rfl (by simp [e_gr, e_lr, g_0_8]) rfl rfl sh_87 sh_90 (by omega) (by omega) (by omega) (by omega)
      have F2 : ∀ x, ¬ (82 ≤ x ∧ x ≤ 90) → f2 x = f x := fun x hx => by rw [h2, row_ne _ _ (by omega), P2 x (by omega)]
      have w2 := w.congr (g := f2) (fun j hj => F2 j (by omega)) (F2 104 (by omega))
      obtain ⟨g1, S1, S2, S3, S4⟩ := X6_playWith f2 w2 hk (j := 3) (by omega) (v := TRS k 3 + 1) (by simp only [lim]; omega) hN
      rw [tlR_0] at S4
      have G1 : ∀ x, ¬ (82 ≤ x ∧ x ≤ 90) → g1 x = f x := fun x hx => by rw [S2 x (by omega), F2 x hx]
      obtain ⟨A, eA⟩ : ∃ A : Nat → Int32, A = fun o => iI (gC (updN (TRS k) 3 (TRS k 3 + 1)) wd ro hh (Q k) n o) := ⟨_, rfl⟩
      obtain ⟨B, eB⟩ : ∃ B : Nat → Int32, B = fun o => iI (gC (TRS k) wd ro hh (Q k) n o) := ⟨_, rfl⟩
      have W6 := X6_gains_W g1 (nI k) (nI n) (nI (TRS k 3)) (A := A) (B := B) (fun o ho => by
        rw [S4.2.1 o ho, eA]; simp only [tl0, Int.zero_add]; rfl) (fun o ho => by
        rw [S2 90 (by omega), h2, row_self]
        have := put_in (a := 0) (fun j => f1 87 (0 + j)) (f1 90) ho
        rw [Nat.zero_add] at this
        rw [this, P4.2.1 o ho, eB]; simp only [tl0, Int.zero_add]; rfl)
      -- the reference
      have e104 := G1 104 (by omega)
      obtain ⟨p1, U1, U2, U3⟩ := X7_puts g1
      have p104 : p1 104 = f 104 := by rw [U2 104 (by omega), e104]
      obtain ⟨q1, p2, H1, H2, H3, H4⟩ := X7_hoursGo p1 (n := n) (TRS := TRS) (ro := ro) (wd := wd) (Q := Q) (h := hh) (by rw [p104]; exact hS) (by rw [p104]; exact b2) (fun k hk => by rw [p104]; exact (sp k hk).1) hAl hN
      obtain ⟨p3, V1, V2, V3⟩ := X7_gains_W1 p2 (nI k) (nI n) (nI (csI n (fun i => csI m (fun k => nS TRS wd hh Q i k))))
      have bk1 : ∀ o, o < 6 → p2 104 (119 + o) = iI (bo o + (restC TRS wd ro hh Q m n k o + gC (TRS k) wd ro hh (Q k) n o)) := fun o ho => by
        rw [H4.2.2.2.2.2.1 bo (fun o ho => by rw [H2 104 (by omega), p104]; exact (bk' o ho).2) o ho, ← book_split hk, updT_same]
      obtain ⟨p4, B1, B2, B3, B4⟩ := X7_putsBack p3
      have p4104 : p4 104 = f 104 := by
        funext y
        by_cases c : y < 735
        · rw [B3 y c, V2 106 (by omega), H4.1 106 (by omega) (by omega) (by omega) (by omega), H2 106 (by omega), U3 y c, e104]
        · rw [B4 y (by omega), V2 104 (by omega), H4.2.2.1 y (by omega) (by omega) (fun k hk => by unfold inCh; omega), H2 104 (by omega), p104]
      obtain ⟨p5, h5⟩ : ∃ p5, p5 = row p4 104 (upd (p4 104) (63 + 7 * k + 3) (p4 104 (63 + 7 * k + 3) + 1)) := ⟨_, rfl⟩
      have wr := wr_104 p4 (show 63 + 7 * k + 3 < 735 by omega) (p4 104 (63 + 7 * k + 3) + 1)
      rw [← h5] at wr
      have p54 : p5 104 = upd (f 104) (63 + 7 * k + 3) (nI (TRS k 3 + 1)) := by
        rw [h5, row_self, p4104, (hS.2.1 k hk).1 3 (by omega), nI_next]
      have hS5 : HSt (p5 104) m (updT TRS k (updN (TRS k) 3 (TRS k 3 + 1))) ro wd := by rw [p54]; exact hS.trait hk (by omega) (by simp only [lim]; omega)
      obtain ⟨q5, p6, I1, I2, I3, I4⟩ := X7_hoursGo p5 (n := n) (Q := Q) (h := hh) hS5 (by rw [p54, upd_ne _ _ (by omega)]; exact b2) (fun x hx => by
        rw [p54]; exact (sp x hx).1.sig (fun y hy => upd_ne _ _ (by unfold inCh at hy; omega))) hAl hN
      have x6 : ∀ x, x ≠ 103 → x ≠ 104 → x ≠ 108 → x ≠ 109 → p6 x = p4 x := fun x c1 c2 c3 c4 => by rw [I4.1 x c1 c2 c3 c4, I2 x c4, h5, row_ne _ _ c2]
      have x4 : ∀ x, x ≠ 103 → x ≠ 104 → x ≠ 106 → x ≠ 108 → x ≠ 109 → x ≠ 110 → p4 x = g1 x := fun x c1 c2 c3 c4 c5 c6 => by rw [B2 x c2, V2 x c6, H4.1 x c1 c2 c4 c5, H2 x c5, U2 x c3]
      have bk2 : ∀ o, o < 6 → p6 104 (119 + o) = iI (bo o + (restC TRS wd ro hh Q m n k o + gC (updN (TRS k) 3 (TRS k 3 + 1)) wd ro hh (Q k) n o)) := fun o ho => by
        rw [I4.2.2.2.2.2.1 bo (fun o ho => by rw [I2 104 (by omega), p54, upd_ne _ _ (by omega)]; exact (bk' o ho).2) o ho, book_split hk]
      have W7 := X7_gains_W2 p6 (nI k) (nI n) (nI (csI n (fun i => csI m (fun x => nS (updT TRS k (updN (TRS k) 3 (TRS k 3 + 1))) wd hh Q i x)))) (B := fun o => iI (bo o + (restC TRS wd ro hh Q m n k o + gC (TRS k) wd ro hh (Q k) n o))) bk2 (fun o ho => by
        rw [x6 110 (by omega) (by omega) (by omega) (by omega), B2 110 (by omega), V3 o ho]; exact bk1 o ho)
      have p6106 : ∀ y, y < 735 → q5 106 y = f 104 y := fun y hy => by
        rw [I2 106 (by omega), h5, row_ne _ _ (by omega), B2 106 (by omega), V2 106 (by omega), H4.1 106 (by omega) (by omega) (by omega) (by omega), H2 106 (by omega), U3 y hy, e104]
      obtain ⟨p7, Z1, Z2, Z3⟩ := pbk_of I4 m8 (s0 := f 104) p6106 (fun y hy => by rw [I2 104 (by omega), p54, upd_ne _ _ (by omega)])
      have eqv : orI 6 (gaV A B) = orI 6 (gaV (fun o => iI (bo o + (restC TRS wd ro hh Q m n k o + gC (updN (TRS k) 3 (TRS k 3 + 1)) wd ro hh (Q k) n o))) (fun o => iI (bo o + (restC TRS wd ro hh Q m n k o + gC (TRS k) wd ro hh (Q k) n o)))) := by
        refine orI_congr (fun o ho => ?_)
        have c1 := gC_bnd w hk hN (updN_TB (j := 3) (v := TRS k 3 + 1) hb (by simp only [lim]; omega)) o
        have c2 := gC_bnd w hk hN hb o
        have c3 := restC_bnd w (k := k) hN o ho
        have e1 : B o < A o ↔ gC (TRS k) wd ro hh (Q k) n o < gC (updN (TRS k) 3 (TRS k 3 + 1)) wd ro hh (Q k) n o := by
          rw [eA, eB]; exact iI_lt_iff (by unfold bnd at *; omega) (by unfold bnd at *; omega)
        have e2 : iI (bo o + (restC TRS wd ro hh Q m n k o + gC (TRS k) wd ro hh (Q k) n o)) < iI (bo o + (restC TRS wd ro hh Q m n k o + gC (updN (TRS k) 3 (TRS k 3 + 1)) wd ro hh (Q k) n o)) ↔ gC (TRS k) wd ro hh (Q k) n o < gC (updN (TRS k) 3 (TRS k 3 + 1)) wd ro hh (Q k) n o := by
          rw [iI_lt_iff (by unfold bnd at *; omega) (by unfold bnd at *; omega)]; omega
        unfold gaV
        by_cases c : B o < A o
        · rw [if_pos c, if_pos (e2.mpr (e1.mp c))]
        · rw [if_neg c, if_neg (fun q => c (e1.mpr (e2.mp q)))]
      have g4 : g1 104 1 = nI m := by rw [e104]; exact em'
      have g5 : g1 104 0 = nI hh := by rw [e104]; exact b2
      have i3 := X7_its3 g1 (k := k) (by omega)
      rw [e104, (hS.2.1 k hk).1 3 (by omega)] at i3
      refine ⟨orI 6 (gaV A B), g1, p7, ?_, ?_, ?_⟩
      · have z : nI 3 = 3 := rfl
        rw [z] at P1 S1
        simp [D_X6_gains, S_X6_gains, m_den, l0, Value.category, s_seq, s_if, s_st, s_ret, s_retz, s_retv, s_skip, s_sc, s_inc, s_call, e_c, e_li, e_lr, e_lj, e_un, e_bin, e_if, e_b, b_not, b_and, b_or, b_of, e_call, a_recv, a_snoc, a_nil, prI, prJ, prR, e_gi, e_gr, e_ai, e_ar, s_as, s_aop, s_pf, s_pfz, s_fop, l_set, l_ok, e_div, e_rem, e_len, s_tab, X6_isChimney, X6_isIn, b4, a1, a2, a5, a6, rc_0, g_0_0, g_1_7, rr_6 f (show k < 8 by omega), gch0 f hC, rdt3 f hC, t3, rd_l3, q9, d9, X6_hasHours, b1, hq, hN, P1, cp, nI_next, S1, W6]
      · rw [eqv]
        simp [D_X7_gains, S_X7_gains, m_den, l0, Value.category, s_seq, s_if, s_st, s_ret, s_retz, s_retv, s_skip, s_sc, s_inc, s_call, e_c, e_li, e_lr, e_lj, e_un, e_bin, e_if, e_b, b_not, b_and, b_or, b_of, e_call, a_recv, a_snoc, a_nil, prI, prJ, prR, e_gi, e_gr, e_ai, e_ar, s_as, s_aop, s_pf, s_pfz, s_fop, l_set, l_ok, e_div, e_rem, e_len, s_tab, X7_isChimney, X7_isDay, g4, g5, a1, a2, a5, a6, rc_103, i3, q9', d9', X7_isTooFar, hq, hN, U1, H1, V1, B1, X7_at3, g_103_0, rd_104 p4 (show 63 + 7 * k + 3 < 735 by omega), wr, I1, W7, Z1]
      · refine h.trial (fun x c1 c2 c3 c4 c5 c6 c7 => ?_) (fun y hy => ?_)
        · by_cases c : x = 104
          · subst c; exact Z2
          · rw [Z3 x c, x6 x c2 c c4 c5, x4 x c2 c c3 c4 c5 c6, G1 x (by omega)]
        · rw [Z3 103 (by omega), I4.2.1 y (by omega), I2 103 (by omega), h5, row_ne _ _ (by omega), B2 103 (by omega), V2 103 (by omega), H4.2.1 y (by omega), H2 103 (by omega), U2 103 (by omega), G1 103 (by omega)]
    · refine agr_find (j := 4) (v := -1000005) h ?_ (fun g hg => ?_)
      · by_cases c9 : 9 ≤ TRS k 3
        · exact X6_gains_hi f (by omega) hC a1 (by rw [b4]; exact a2) a5 a6 t3 (q9 ▸ c9)
        · have hN : ¬ hh + n ≤ 9999 := fun q => hok ⟨by omega, q⟩
          exact X6_gains_far f (by omega) hC a1 (by rw [b4]; exact a2) a5 a6 t3 (by rw [q9]; exact c9) (by rw [b1, hq]; exact hN)
      · have b2' : g 104 0 = nI hh := by rw [hg.1]; exact b2
        have b3' : g 104 1 = nI m := by rw [hg.1]; exact em'
        have i3 := X7_its3 g (k := k) (by omega)
        rw [hg.1, (hS.2.1 k hk).1 3 (by omega)] at i3
        by_cases c9 : TRS k 3 = 9
        · exact X7_gains_hi g a1 (by rw [b3']; exact a2) a5 a6 i3 (by rw [q9']; exact eq_true c9)
        · have hN : ¬ hh + n ≤ 9999 := fun q => hok ⟨by omega, q⟩
          exact X7_gains_far g a1 (by rw [b3']; exact a2) a5 a6 i3 (by rw [q9']; exact c9) (by rw [b2', hq]; exact hN)
  · exact agr_find h (X6_gains_no0 f (by rw [b4]; exact hc)) (fun g hg => X7_gains_no0 g (by rw [hg.1, em']; exact hc))
