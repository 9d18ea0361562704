/-! sums over chimneys and cells: air, settled, thickest, count -/
theorem sumI_zero' {n : Nat} {g : Nat → Int32} (e : ∀ i, i < n → g i = 0) : sumI n g = 0 := by rw [sumI_congr e, sumI_zero]
/-- what one chimney gives to a sum over some cells -/
def overN (row : Nat → Int32) (cell : Int32) : Int32 := if 0 ≤ cell then row cell.toNatClampNeg else sumI 36 row
theorem X6_partsOver_W (f : FN) {i : Nat} (hi : shp[i]? = some (ia 36)) (cell : Int32) : W_X6_partsOver_1 [.ref i, .int cell, .int 0, .int 0] (memOf f) = some (.inl ([.ref i, .int cell, .int (sumI 36 (f i)), .int (nI 36)], memOf f)) := by
  refine while_count (fun k => ([.ref i, .int cell, .int (sumI k (f i)), .int (nI k)], memOf f)) 36 (by unfold FU; omega) (fun k hk => ?_) (fun k hk => ?_) ?_
  · have e : nI k < (36 : Int32) := lt_lit (n := 36) hk (by omega)
    simp [WB_X6_partsOver_1, m_den, l0, Value.category, s_seq, s_if, s_st, s_ret, s_retz, s_retv, s_skip, s_sc, s_inc, s_call, e_c, e_li, e_lr, e_lj, e_un, e_bin, e_if, e_b, b_not, b_and, b_or, b_of, e_call, a_recv, a_snoc, a_nil, prI, prJ, prR, e_gi, e_gr, e_ai, e_ar, s_as, s_aop, s_pf, s_pfz, s_fop, l_set, l_ok, e_div, e_rem, e_len, s_tab, e]
  · simp [WS_X6_partsOver_1, m_den, l0, Value.category, s_seq, s_if, s_st, s_ret, s_retz, s_retv, s_skip, s_sc, s_inc, s_call, e_c, e_li, e_lr, e_lj, e_un, e_bin, e_if, e_b, b_not, b_and, b_or, b_of, e_call, a_recv, a_snoc, a_nil, prI, prJ, prR, e_gi, e_gr, e_ai, e_ar, s_as, s_aop, s_pf, s_pfz, s_fop, l_set, l_ok, e_div, e_rem, e_len, s_tab, rd_nI f hi (by omega) hk, nI_next, sumI]
  · have e : ¬ nI 36 < (36 : Int32) := nlt_lit (n := 36) (by omega)
    simp [WB_X6_partsOver_1, m_den, l0, Value.category, s_seq, s_if, s_st, s_ret, s_retz, s_retv, s_skip, s_sc, s_inc, s_call, e_c, e_li, e_lr, e_lj, e_un, e_bin, e_if, e_b, b_not, b_and, b_or, b_of, e_call, a_recv, a_snoc, a_nil, prI, prJ, prR, e_gi, e_gr, e_ai, e_ar, s_as, s_aop, s_pf, s_pfz, s_fop, l_set, l_ok, e_div, e_rem, e_len, s_tab, e]
theorem X6_partsOver (f : FN) {i : Nat} (hi : shp[i]? = some (ia 36)) {cell : Int32} (h : cell ≤ 35) : D_X6_partsOver [.ref i, .int cell] (memOf f) = some (.int (overN (f i) cell), memOf f) := by
  by_cases c : 0 ≤ cell
  · obtain ⟨n, hn, rfl⟩ := in_ex (n := 35) ⟨c, h⟩ (by omega)
    have e : (nI n).toNatClampNeg = n := nI_clamp (by omega)
    simp [D_X6_partsOver, S_X6_partsOver, m_den, l0, Value.category, s_seq, s_if, s_st, s_ret, s_retz, s_retv, s_skip, s_sc, s_inc, s_call, e_c, e_li, e_lr, e_lj, e_un, e_bin, e_if, e_b, b_not, b_and, b_or, b_of, e_call, a_recv, a_snoc, a_nil, prI, prJ, prR, e_gi, e_gr, e_ai, e_ar, s_as, s_aop, s_pf, s_pfz, s_fop, l_set, l_ok, e_div, e_rem, e_len, s_tab, c, rd_nI f hi (by omega) hn, overN, e]
  · simp [D_X6_partsOver, S_X6_partsOver, m_den, l0, Value.category, s_seq, s_if, s_st, s_ret, s_retz, s_retv, s_skip, s_sc, s_inc, s_call, e_c, e_li, e_lr, e_lj, e_un, e_bin, e_if, e_b, b_not, b_and, b_or, b_of, e_call, a_recv, a_snoc, a_nil, prI, prJ, prR, e_gi, e_gr, e_ai, e_ar, s_as, s_aop, s_pf, s_pfz, s_fop, l_set, l_ok, e_div, e_rem, e_len, s_tab, c, X6_partsOver_W f hi, overN]
theorem X6_lastOf_all (f : FN) {k : Int32} (h : k < 0) : D_X6_lastOf [.ref 0, .int k] (memOf f) = some (.int (f 1 2 - 1), memOf f) := by
  simp [D_X6_lastOf, S_X6_lastOf, m_den, l0, Value.category, s_seq, s_if, s_st, s_ret, s_retz, s_retv, s_skip, s_sc, s_inc, s_call, e_c, e_li, e_lr, e_lj, e_un, e_bin, e_if, e_b, b_not, b_and, b_or, b_of, e_call, a_recv, a_snoc, a_nil, prI, prJ, prR, e_gi, e_gr, e_ai, e_ar, s_as, s_aop, s_pf, s_pfz, s_fop, l_set, l_ok, e_div, e_rem, e_len, s_tab, h, g_0_0, g_1_2]
theorem X6_lastOf_one (f : FN) {n : Nat} (h : n < 8) : D_X6_lastOf [.ref 0, .int (nI n)] (memOf f) = some (.int (nI n), memOf f) := by
  have e : ¬ nI n < 0 := nI_pos (by omega)
  simp [D_X6_lastOf, S_X6_lastOf, m_den, l0, Value.category, s_seq, s_if, s_st, s_ret, s_retz, s_retv, s_skip, s_sc, s_inc, s_call, e_c, e_li, e_lr, e_lj, e_un, e_bin, e_if, e_b, b_not, b_and, b_or, b_of, e_call, a_recv, a_snoc, a_nil, prI, prJ, prR, e_gi, e_gr, e_ai, e_ar, s_as, s_aop, s_pf, s_pfz, s_fop, l_set, l_ok, e_div, e_rem, e_len, s_tab, e]
theorem nI_lt_le {k m : Nat} (hk : k < m) (hm : m ≤ 8) : nI k ≤ nI m - 1 := chi_le hk hm
theorem nI_nle8 {m : Nat} (hm : m ≤ 8) : ¬ nI m ≤ nI m - 1 := by
  have h : ∀ m : Fin 9, ¬ nI m.1 ≤ nI m.1 - 1 := by decide +kernel
  exact h ⟨m, by omega⟩
/-- air and settled of the class: all chimneys -/
theorem X6_air_all (f : FN) {m : Nat} (hm : m ≤ 8) (em : f 1 2 = nI m) {cell : Int32} (h1 : -1 ≤ cell) (h2 : cell ≤ 35) : D_X6_air [.ref 0, .int (-1), .int cell] (memOf f) = some (.int (sumI m (fun k => overN (f (chId 1 k + 2)) cell)), memOf f) := by
  have W : W_X6_air_1 [.ref 0, .int (-1), .int cell, .int 0, .int 0] (memOf f) = some (.inl ([.ref 0, .int (-1), .int cell, .int (sumI m (fun k => overN (f (chId 1 k + 2)) cell)), .int (nI m)], memOf f)) := by
    refine while_count (fun j => ([.ref 0, .int (-1), .int cell, .int (sumI j (fun k => overN (f (chId 1 k + 2)) cell)), .int (nI j)], memOf f)) m (by unfold FU; omega) (fun k hk => ?_) (fun k hk => ?_) ?_
    · have e := nI_lt_le hk hm
      simp [WB_X6_air_1, m_den, l0, Value.category, s_seq, s_if, s_st, s_ret, s_retz, s_retv, s_skip, s_sc, s_inc, s_call, e_c, e_li, e_lr, e_lj, e_un, e_bin, e_if, e_b, b_not, b_and, b_or, b_of, e_call, a_recv, a_snoc, a_nil, prI, prJ, prR, e_gi, e_gr, e_ai, e_ar, s_as, s_aop, s_pf, s_pfz, s_fop, l_set, l_ok, e_div, e_rem, e_len, s_tab, rc_0, X6_lastOf_all, em, e]
    · have h8 : k < 8 := by omega
      have hC := isCh_town (b := 1) (Or.inl rfl) h8
      simp [WS_X6_air_1, m_den, l0, Value.category, s_seq, s_if, s_st, s_ret, s_retz, s_retv, s_skip, s_sc, s_inc, s_call, e_c, e_li, e_lr, e_lj, e_un, e_bin, e_if, e_b, b_not, b_and, b_or, b_of, e_call, a_recv, a_snoc, a_nil, prI, prJ, prR, e_gi, e_gr, e_ai, e_ar, s_as, s_aop, s_pf, s_pfz, s_fop, l_set, l_ok, e_div, e_rem, e_len, s_tab, g_0_0, g_1_7, rr_6 f h8, gch1 f hC, X6_partsOver f hC.2.2.1 h2, nI_next, sumI]
    · simp [WB_X6_air_1, m_den, l0, Value.category, s_seq, s_if, s_st, s_ret, s_retz, s_retv, s_skip, s_sc, s_inc, s_call, e_c, e_li, e_lr, e_lj, e_un, e_bin, e_if, e_b, b_not, b_and, b_or, b_of, e_call, a_recv, a_snoc, a_nil, prI, prJ, prR, e_gi, e_gr, e_ai, e_ar, s_as, s_aop, s_pf, s_pfz, s_fop, l_set, l_ok, e_div, e_rem, e_len, s_tab, rc_0, X6_lastOf_all, em, nI_nle8 hm]
  have e := m1_le hm
  simp [D_X6_air, S_X6_air, m_den, l0, Value.category, s_seq, s_if, s_st, s_ret, s_retz, s_retv, s_skip, s_sc, s_inc, s_call, e_c, e_li, e_lr, e_lj, e_un, e_bin, e_if, e_b, b_not, b_and, b_or, b_of, e_call, a_recv, a_snoc, a_nil, prI, prJ, prR, e_gi, e_gr, e_ai, e_ar, s_as, s_aop, s_pf, s_pfz, s_fop, l_set, l_ok, e_div, e_rem, e_len, s_tab, rc_0, X6_isChimneyOrAll, X6_isCellOrAll, em, e, h1, h2, J9_max, W]
theorem X6_settled_all (f : FN) {m : Nat} (hm : m ≤ 8) (em : f 1 2 = nI m) {cell : Int32} (h1 : -1 ≤ cell) (h2 : cell ≤ 35) : D_X6_settled [.ref 0, .int (-1), .int cell] (memOf f) = some (.int (sumI m (fun k => overN (f (chId 1 k + 3)) cell)), memOf f) := by
  have W : W_X6_settled_1 [.ref 0, .int (-1), .int cell, .int 0, .int 0] (memOf f) = some (.inl ([.ref 0, .int (-1), .int cell, .int (sumI m (fun k => overN (f (chId 1 k + 3)) cell)), .int (nI m)], memOf f)) := by
    refine while_count (fun j => ([.ref 0, .int (-1), .int cell, .int (sumI j (fun k => overN (f (chId 1 k + 3)) cell)), .int (nI j)], memOf f)) m (by unfold FU; omega) (fun k hk => ?_) (fun k hk => ?_) ?_
    · have e := nI_lt_le hk hm
      simp [WB_X6_settled_1, m_den, l0, Value.category, s_seq, s_if, s_st, s_ret, s_retz, s_retv, s_skip, s_sc, s_inc, s_call, e_c, e_li, e_lr, e_lj, e_un, e_bin, e_if, e_b, b_not, b_and, b_or, b_of, e_call, a_recv, a_snoc, a_nil, prI, prJ, prR, e_gi, e_gr, e_ai, e_ar, s_as, s_aop, s_pf, s_pfz, s_fop, l_set, l_ok, e_div, e_rem, e_len, s_tab, rc_0, X6_lastOf_all, em, e]
    · have h8 : k < 8 := by omega
      have hC := isCh_town (b := 1) (Or.inl rfl) h8
      simp [WS_X6_settled_1, m_den, l0, Value.category, s_seq, s_if, s_st, s_ret, s_retz, s_retv, s_skip, s_sc, s_inc, s_call, e_c, e_li, e_lr, e_lj, e_un, e_bin, e_if, e_b, b_not, b_and, b_or, b_of, e_call, a_recv, a_snoc, a_nil, prI, prJ, prR, e_gi, e_gr, e_ai, e_ar, s_as, s_aop, s_pf, s_pfz, s_fop, l_set, l_ok, e_div, e_rem, e_len, s_tab, g_0_0, g_1_7, rr_6 f h8, gch2 f hC, X6_partsOver f hC.2.2.2 h2, nI_next, sumI]
    · simp [WB_X6_settled_1, m_den, l0, Value.category, s_seq, s_if, s_st, s_ret, s_retz, s_retv, s_skip, s_sc, s_inc, s_call, e_c, e_li, e_lr, e_lj, e_un, e_bin, e_if, e_b, b_not, b_and, b_or, b_of, e_call, a_recv, a_snoc, a_nil, prI, prJ, prR, e_gi, e_gr, e_ai, e_ar, s_as, s_aop, s_pf, s_pfz, s_fop, l_set, l_ok, e_div, e_rem, e_len, s_tab, rc_0, X6_lastOf_all, em, nI_nle8 hm]
  have e := m1_le hm
  simp [D_X6_settled, S_X6_settled, m_den, l0, Value.category, s_seq, s_if, s_st, s_ret, s_retz, s_retv, s_skip, s_sc, s_inc, s_call, e_c, e_li, e_lr, e_lj, e_un, e_bin, e_if, e_b, b_not, b_and, b_or, b_of, e_call, a_recv, a_snoc, a_nil, prI, prJ, prR, e_gi, e_gr, e_ai, e_ar, s_as, s_aop, s_pf, s_pfz, s_fop, l_set, l_ok, e_div, e_rem, e_len, s_tab, rc_0, X6_isChimneyOrAll, X6_isCellOrAll, em, e, h1, h2, J9_max, W]
theorem nI_nnext {n : Nat} (h : n < 8) : ¬ nI (n + 1) ≤ nI n := fun q => absurd ((nI_le_iff (by omega) (by omega)).mp q) (by omega)
theorem X6_air_one (f : FN) {m n : Nat} (hn : n < m) (hm : m ≤ 8) (em : f 1 2 = nI m) {cell : Int32} (h1 : -1 ≤ cell) (h2 : cell ≤ 35) : D_X6_air [.ref 0, .int (nI n), .int cell] (memOf f) = some (.int (overN (f (chId 1 n + 2)) cell), memOf f) := by
  have h8 : n < 8 := by omega
  have hC := isCh_town (b := 1) (Or.inl rfl) h8
  have W : W_X6_air_1 [.ref 0, .int (nI n), .int cell, .int 0, .int (nI n)] (memOf f) = some (.inl ([.ref 0, .int (nI n), .int cell, .int (overN (f (chId 1 n + 2)) cell), .int (nI (n + 1))], memOf f)) := by
    refine while_count (fun j => ([.ref 0, .int (nI n), .int cell, .int (if j = 0 then 0 else overN (f (chId 1 n + 2)) cell), .int (nI (n + j))], memOf f)) 1 (by unfold FU; omega) (fun k hk => ?_) (fun k hk => ?_) ?_
    · have : k = 0 := by omega
      subst this
      simp [WB_X6_air_1, m_den, l0, Value.category, s_seq, s_if, s_st, s_ret, s_retz, s_retv, s_skip, s_sc, s_inc, s_call, e_c, e_li, e_lr, e_lj, e_un, e_bin, e_if, e_b, b_not, b_and, b_or, b_of, e_call, a_recv, a_snoc, a_nil, prI, prJ, prR, e_gi, e_gr, e_ai, e_ar, s_as, s_aop, s_pf, s_pfz, s_fop, l_set, l_ok, e_div, e_rem, e_len, s_tab, rc_0, X6_lastOf_one f h8]
    · have : k = 0 := by omega
      subst this
      simp [WS_X6_air_1, m_den, l0, Value.category, s_seq, s_if, s_st, s_ret, s_retz, s_retv, s_skip, s_sc, s_inc, s_call, e_c, e_li, e_lr, e_lj, e_un, e_bin, e_if, e_b, b_not, b_and, b_or, b_of, e_call, a_recv, a_snoc, a_nil, prI, prJ, prR, e_gi, e_gr, e_ai, e_ar, s_as, s_aop, s_pf, s_pfz, s_fop, l_set, l_ok, e_div, e_rem, e_len, s_tab, g_0_0, g_1_7, rr_6 f h8, gch1 f hC, X6_partsOver f hC.2.2.1 h2, nI_next]
    · simp [WB_X6_air_1, m_den, l0, Value.category, s_seq, s_if, s_st, s_ret, s_retz, s_retv, s_skip, s_sc, s_inc, s_call, e_c, e_li, e_lr, e_lj, e_un, e_bin, e_if, e_b, b_not, b_and, b_or, b_of, e_call, a_recv, a_snoc, a_nil, prI, prJ, prR, e_gi, e_gr, e_ai, e_ar, s_as, s_aop, s_pf, s_pfz, s_fop, l_set, l_ok, e_div, e_rem, e_len, s_tab, rc_0, X6_lastOf_one f h8, nI_nnext h8]
  have e := chi_le hn hm
  have e0 : (0 : Int32) ≤ nI n := nI_pos' (by omega)
  have e1 : (-1 : Int32) ≤ nI n := Int32.le_trans (by decide) e0
  simp [D_X6_air, S_X6_air, m_den, l0, Value.category, s_seq, s_if, s_st, s_ret, s_retz, s_retv, s_skip, s_sc, s_inc, s_call, e_c, e_li, e_lr, e_lj, e_un, e_bin, e_if, e_b, b_not, b_and, b_or, b_of, e_call, a_recv, a_snoc, a_nil, prI, prJ, prR, e_gi, e_gr, e_ai, e_ar, s_as, s_aop, s_pf, s_pfz, s_fop, l_set, l_ok, e_div, e_rem, e_len, s_tab, rc_0, X6_isChimneyOrAll, X6_isCellOrAll, em, e, e0, e1, h1, h2, J9_max, W]
theorem X6_settled_one (f : FN) {m n : Nat} (hn : n < m) (hm : m ≤ 8) (em : f 1 2 = nI m) {cell : Int32} (h1 : -1 ≤ cell) (h2 : cell ≤ 35) : D_X6_settled [.ref 0, .int (nI n), .int cell] (memOf f) = some (.int (overN (f (chId 1 n + 3)) cell), memOf f) := by
  have h8 : n < 8 := by omega
  have hC := isCh_town (b := 1) (Or.inl rfl) h8
  have W : W_X6_settled_1 [.ref 0, .int (nI n), .int cell, .int 0, .int (nI n)] (memOf f) = some (.inl ([.ref 0, .int (nI n), .int cell, .int (overN (f (chId 1 n + 3)) cell), .int (nI (n + 1))], memOf f)) := by
    refine while_count (fun j => ([.ref 0, .int (nI n), .int cell, .int (if j = 0 then 0 else overN (f (chId 1 n + 3)) cell), .int (nI (n + j))], memOf f)) 1 (by unfold FU; omega) (fun k hk => ?_) (fun k hk => ?_) ?_
    · have : k = 0 := by omega
      subst this
      simp [WB_X6_settled_1, m_den, l0, Value.category, s_seq, s_if, s_st, s_ret, s_retz, s_retv, s_skip, s_sc, s_inc, s_call, e_c, e_li, e_lr, e_lj, e_un, e_bin, e_if, e_b, b_not, b_and, b_or, b_of, e_call, a_recv, a_snoc, a_nil, prI, prJ, prR, e_gi, e_gr, e_ai, e_ar, s_as, s_aop, s_pf, s_pfz, s_fop, l_set, l_ok, e_div, e_rem, e_len, s_tab, rc_0, X6_lastOf_one f h8]
    · have : k = 0 := by omega
      subst this
      simp [WS_X6_settled_1, m_den, l0, Value.category, s_seq, s_if, s_st, s_ret, s_retz, s_retv, s_skip, s_sc, s_inc, s_call, e_c, e_li, e_lr, e_lj, e_un, e_bin, e_if, e_b, b_not, b_and, b_or, b_of, e_call, a_recv, a_snoc, a_nil, prI, prJ, prR, e_gi, e_gr, e_ai, e_ar, s_as, s_aop, s_pf, s_pfz, s_fop, l_set, l_ok, e_div, e_rem, e_len, s_tab, g_0_0, g_1_7, rr_6 f h8, gch2 f hC, X6_partsOver f hC.2.2.2 h2, nI_next]
    · simp [WB_X6_settled_1, m_den, l0, Value.category, s_seq, s_if, s_st, s_ret, s_retz, s_retv, s_skip, s_sc, s_inc, s_call, e_c, e_li, e_lr, e_lj, e_un, e_bin, e_if, e_b, b_not, b_and, b_or, b_of, e_call, a_recv, a_snoc, a_nil, prI, prJ, prR, e_gi, e_gr, e_ai, e_ar, s_as, s_aop, s_pf, s_pfz, s_fop, l_set, l_ok, e_div, e_rem, e_len, s_tab, rc_0, X6_lastOf_one f h8, nI_nnext h8]
  have e := chi_le hn hm
  have e0 : (0 : Int32) ≤ nI n := nI_pos' (by omega)
  have e1 : (-1 : Int32) ≤ nI n := Int32.le_trans (by decide) e0
  simp [D_X6_settled, S_X6_settled, m_den, l0, Value.category, s_seq, s_if, s_st, s_ret, s_retz, s_retv, s_skip, s_sc, s_inc, s_call, e_c, e_li, e_lr, e_lj, e_un, e_bin, e_if, e_b, b_not, b_and, b_or, b_of, e_call, a_recv, a_snoc, a_nil, prI, prJ, prR, e_gi, e_gr, e_ai, e_ar, s_as, s_aop, s_pf, s_pfz, s_fop, l_set, l_ok, e_div, e_rem, e_len, s_tab, rc_0, X6_isChimneyOrAll, X6_isCellOrAll, em, e, e0, e1, h1, h2, J9_max, W]
/-! the reference's sums -/
def smC (chim : Int32) (k : Nat) (cell : Int32) (c : Nat) (x : Int32) : Int32 := if (chim < 0 ∨ chim = nI k) ∧ (cell < 0 ∨ cell = nI c) then x else 0
theorem sumI_acc (a : Int32) (n : Nat) (g : Nat → Int32) : a + sumI (n + 1) g = a + sumI n g + g n := by
  show a + (sumI n g + g n) = _
  rw [Int32.add_assoc]
theorem add_sum0 (a : Int32) (g : Nat → Int32) : a + sumI 0 g = a := Int32.add_zero a
theorem i_gen (w k c : Nat) : nI w + 36 * nI k + nI c = nI (w + 36 * k + c) := by rw [show (36 : Int32) = nI 36 from rfl, nI_m, nI_a, nI_a]
theorem X7_sums_W1 (f : FN) {w k : Nat} (hw : w + 288 ≤ 735) (hk : k < 8) (chim cell a : Int32) : W_X7_sums_1 [.ref 103, .int (nI w), .int chim, .int cell, .int a, .int (nI k), .int 0] (memOf f) = some (.inl ([.ref 103, .int (nI w), .int chim, .int cell, .int (a + sumI 36 (fun c => smC chim k cell c (f 104 (w + 36 * k + c)))), .int (nI k), .int (nI 36)], memOf f)) := by
  have key := while_count (b := WB_X7_sums_1) (s := WS_X7_sums_1) (fun j => ([.ref 103, .int (nI w), .int chim, .int cell, .int (a + sumI j (fun c => smC chim k cell c (f 104 (w + 36 * k + c)))), .int (nI k), .int (nI j)], memOf f)) 36 (by unfold FU; omega) (fun c hc => ?_) (fun c hc => ?_) ?_
  · simp only [add_sum0] at key
    exact key
  · have e : nI c < (36 : Int32) := lt_lit (n := 36) hc (by omega)
    simp [WB_X7_sums_1, m_den, l0, Value.category, s_seq, s_if, s_st, s_ret, s_retz, s_retv, s_skip, s_sc, s_inc, s_call, e_c, e_li, e_lr, e_lj, e_un, e_bin, e_if, e_b, b_not, b_and, b_or, b_of, e_call, a_recv, a_snoc, a_nil, prI, prJ, prR, e_gi, e_gr, e_ai, e_ar, s_as, s_aop, s_pf, s_pfz, s_fop, l_set, l_ok, e_div, e_rem, e_len, s_tab, e]
  · rw [sumI_acc]
    have r := rd_104 f (show w + 36 * k + c < 735 by omega)
    by_cases c1 : chim < 0
    · by_cases c3 : cell < 0
      · simp [WS_X7_sums_1, m_den, l0, Value.category, s_seq, s_if, s_st, s_ret, s_retz, s_retv, s_skip, s_sc, s_inc, s_call, e_c, e_li, e_lr, e_lj, e_un, e_bin, e_if, e_b, b_not, b_and, b_or, b_of, e_call, a_recv, a_snoc, a_nil, prI, prJ, prR, e_gi, e_gr, e_ai, e_ar, s_as, s_aop, s_pf, s_pfz, s_fop, l_set, l_ok, e_div, e_rem, e_len, s_tab, g_103_0, i_gen, r, c1, c3, nI_next, smC]
      · by_cases c4 : cell = nI c
        · subst c4
          simp [WS_X7_sums_1, m_den, l0, Value.category, s_seq, s_if, s_st, s_ret, s_retz, s_retv, s_skip, s_sc, s_inc, s_call, e_c, e_li, e_lr, e_lj, e_un, e_bin, e_if, e_b, b_not, b_and, b_or, b_of, e_call, a_recv, a_snoc, a_nil, prI, prJ, prR, e_gi, e_gr, e_ai, e_ar, s_as, s_aop, s_pf, s_pfz, s_fop, l_set, l_ok, e_div, e_rem, e_len, s_tab, g_103_0, i_gen, r, c1, c3, nI_next, smC]
        · simp [WS_X7_sums_1, m_den, l0, Value.category, s_seq, s_if, s_st, s_ret, s_retz, s_retv, s_skip, s_sc, s_inc, s_call, e_c, e_li, e_lr, e_lj, e_un, e_bin, e_if, e_b, b_not, b_and, b_or, b_of, e_call, a_recv, a_snoc, a_nil, prI, prJ, prR, e_gi, e_gr, e_ai, e_ar, s_as, s_aop, s_pf, s_pfz, s_fop, l_set, l_ok, e_div, e_rem, e_len, s_tab, g_103_0, i_gen, r, c1, c3, c4, nI_next, smC]
    · by_cases c2 : chim = nI k
      · by_cases c3 : cell < 0
        · simp [WS_X7_sums_1, m_den, l0, Value.category, s_seq, s_if, s_st, s_ret, s_retz, s_retv, s_skip, s_sc, s_inc, s_call, e_c, e_li, e_lr, e_lj, e_un, e_bin, e_if, e_b, b_not, b_and, b_or, b_of, e_call, a_recv, a_snoc, a_nil, prI, prJ, prR, e_gi, e_gr, e_ai, e_ar, s_as, s_aop, s_pf, s_pfz, s_fop, l_set, l_ok, e_div, e_rem, e_len, s_tab, g_103_0, i_gen, r, c1, c2, c3, nI_next, smC]
        · by_cases c4 : cell = nI c
          · simp [WS_X7_sums_1, m_den, l0, Value.category, s_seq, s_if, s_st, s_ret, s_retz, s_retv, s_skip, s_sc, s_inc, s_call, e_c, e_li, e_lr, e_lj, e_un, e_bin, e_if, e_b, b_not, b_and, b_or, b_of, e_call, a_recv, a_snoc, a_nil, prI, prJ, prR, e_gi, e_gr, e_ai, e_ar, s_as, s_aop, s_pf, s_pfz, s_fop, l_set, l_ok, e_div, e_rem, e_len, s_tab, g_103_0, i_gen, r, c1, c2, c3, c4, nI_next, smC]
          · simp [WS_X7_sums_1, m_den, l0, Value.category, s_seq, s_if, s_st, s_ret, s_retz, s_retv, s_skip, s_sc, s_inc, s_call, e_c, e_li, e_lr, e_lj, e_un, e_bin, e_if, e_b, b_not, b_and, b_or, b_of, e_call, a_recv, a_snoc, a_nil, prI, prJ, prR, e_gi, e_gr, e_ai, e_ar, s_as, s_aop, s_pf, s_pfz, s_fop, l_set, l_ok, e_div, e_rem, e_len, s_tab, g_103_0, i_gen, r, c1, c2, c3, c4, nI_next, smC]
      · simp [WS_X7_sums_1, m_den, l0, Value.category, s_seq, s_if, s_st, s_ret, s_retz, s_retv, s_skip, s_sc, s_inc, s_call, e_c, e_li, e_lr, e_lj, e_un, e_bin, e_if, e_b, b_not, b_and, b_or, b_of, e_call, a_recv, a_snoc, a_nil, prI, prJ, prR, e_gi, e_gr, e_ai, e_ar, s_as, s_aop, s_pf, s_pfz, s_fop, l_set, l_ok, e_div, e_rem, e_len, s_tab, g_103_0, i_gen, r, c1, c2, nI_next, smC]
  · have e : ¬ nI 36 < (36 : Int32) := nlt_lit (n := 36) (by omega)
    simp [WB_X7_sums_1, m_den, l0, Value.category, s_seq, s_if, s_st, s_ret, s_retz, s_retv, s_skip, s_sc, s_inc, s_call, e_c, e_li, e_lr, e_lj, e_un, e_bin, e_if, e_b, b_not, b_and, b_or, b_of, e_call, a_recv, a_snoc, a_nil, prI, prJ, prR, e_gi, e_gr, e_ai, e_ar, s_as, s_aop, s_pf, s_pfz, s_fop, l_set, l_ok, e_div, e_rem, e_len, s_tab, e]
def smS (f : FN) (w : Nat) (chim cell : Int32) (k : Nat) : Int32 := sumI 36 (fun c => smC chim k cell c (f 104 (w + 36 * k + c)))
theorem X7_sums (f : FN) {w m : Nat} (hw : w + 288 ≤ 735) (hm : m ≤ 8) (em : f 104 1 = nI m) (chim cell : Int32) : D_X7_sums [.ref 103, .int (nI w), .int chim, .int cell] (memOf f) = some (.int (sumI m (smS f w chim cell)), memOf f) := by
  have W : W_X7_sums_2 [.ref 103, .int (nI w), .int chim, .int cell, .int 0, .int 0] (memOf f) = some (.inl ([.ref 103, .int (nI w), .int chim, .int cell, .int (sumI m (smS f w chim cell)), .int (nI m)], memOf f)) := by
    refine while_count (b := WB_X7_sums_2) (s := WS_X7_sums_2) (fun j => ([.ref 103, .int (nI w), .int chim, .int cell, .int (sumI j (smS f w chim cell)), .int (nI j)], memOf f)) m (by unfold FU; omega) (fun k hk => ?_) (fun k hk => ?_) ?_
    · have e : nI k < nI m := (nI_lt_iff (by omega) (by omega)).mpr hk
      simp [WB_X7_sums_2, m_den, l0, Value.category, s_seq, s_if, s_st, s_ret, s_retz, s_retv, s_skip, s_sc, s_inc, s_call, e_c, e_li, e_lr, e_lj, e_un, e_bin, e_if, e_b, b_not, b_and, b_or, b_of, e_call, a_recv, a_snoc, a_nil, prI, prJ, prR, e_gi, e_gr, e_ai, e_ar, s_as, s_aop, s_pf, s_pfz, s_fop, l_set, l_ok, e_div, e_rem, e_len, s_tab, g_103_0, rd_104_1, em, e]
    · have W1 := X7_sums_W1 f hw (show k < 8 by omega) chim cell (sumI k (smS f w chim cell))
      simp [WS_X7_sums_2, m_den, l0, Value.category, s_seq, s_if, s_st, s_ret, s_retz, s_retv, s_skip, s_sc, s_inc, s_call, e_c, e_li, e_lr, e_lj, e_un, e_bin, e_if, e_b, b_not, b_and, b_or, b_of, e_call, a_recv, a_snoc, a_nil, prI, prJ, prR, e_gi, e_gr, e_ai, e_ar, s_as, s_aop, s_pf, s_pfz, s_fop, l_set, l_ok, e_div, e_rem, e_len, s_tab, W1, nI_next]
      rfl
    · have e : ¬ nI m < nI m := Int32.lt_irrefl
      simp [WB_X7_sums_2, m_den, l0, Value.category, s_seq, s_if, s_st, s_ret, s_retz, s_retv, s_skip, s_sc, s_inc, s_call, e_c, e_li, e_lr, e_lj, e_un, e_bin, e_if, e_b, b_not, b_and, b_or, b_of, e_call, a_recv, a_snoc, a_nil, prI, prJ, prR, e_gi, e_gr, e_ai, e_ar, s_as, s_aop, s_pf, s_pfz, s_fop, l_set, l_ok, e_div, e_rem, e_len, s_tab, g_103_0, rd_104_1, em, e]
  simp [D_X7_sums, S_X7_sums, m_den, l0, Value.category, s_seq, s_if, s_st, s_ret, s_retz, s_retv, s_skip, s_sc, s_inc, s_call, e_c, e_li, e_lr, e_lj, e_un, e_bin, e_if, e_b, b_not, b_and, b_or, b_of, e_call, a_recv, a_snoc, a_nil, prI, prJ, prR, e_gi, e_gr, e_ai, e_ar, s_as, s_aop, s_pf, s_pfz, s_fop, l_set, l_ok, e_div, e_rem, e_len, s_tab, W]
theorem sm_in {chim cell : Int32} {k : Nat} (x : Nat → Int32) (h : chim < 0 ∨ chim = nI k) (h2 : cell ≤ 35) : sumI 36 (fun c => smC chim k cell c (x c)) = overN x cell := by
  by_cases c0 : 0 ≤ cell
  · obtain ⟨n, hn, rfl⟩ := in_ex (n := 35) ⟨c0, h2⟩ (by omega)
    have e : (nI n).toNatClampNeg = n := nI_clamp (by omega)
    have e0 : ¬ nI n < 0 := nI_pos (by omega)
    unfold overN
    rw [if_pos c0, e, ← sumI_one x (show n < 36 by omega)]
    refine sumI_congr fun i hi => ?_
    have e2 : (nI n = nI i) = (i = n) := propext ⟨fun q => ((nI_inj (by omega) (by omega)).mp q).symm, fun q => by rw [q]⟩
    unfold smC
    by_cases ei : i = n
    · rw [if_pos ei, if_pos ⟨h, Or.inr (by rw [ei])⟩]
    · rw [if_neg ei, if_neg (fun q => q.2.elim e0 (fun q2 => ei (e2 ▸ q2)))]
  · unfold overN
    rw [if_neg c0]
    refine sumI_congr fun i hi => ?_
    unfold smC
    rw [if_pos ⟨h, Or.inl (Int32.not_le.mp c0)⟩]
theorem sm_out {chim cell : Int32} {k : Nat} (x : Nat → Int32) (h : ¬ (chim < 0 ∨ chim = nI k)) : sumI 36 (fun c => smC chim k cell c (x c)) = 0 := sumI_zero' fun i _ => by
  unfold smC
  rw [if_neg (fun q => h q.1)]
theorem sums_all (f : FN) (w m : Nat) {cell : Int32} (h2 : cell ≤ 35) : sumI m (smS f w (-1) cell) = sumI m (fun k => overN (fun c => f 104 (w + 36 * k + c)) cell) := sumI_congr fun k _ => sm_in _ (Or.inl (by decide)) h2
theorem sums_one (f : FN) (w : Nat) {m n : Nat} (hn : n < m) (hm : m ≤ 8) {cell : Int32} (h2 : cell ≤ 35) : sumI m (smS f w (nI n) cell) = overN (fun c => f 104 (w + 36 * n + c)) cell := by
  rw [← sumI_one (fun k => overN (fun c => f 104 (w + 36 * k + c)) cell) hn]
  refine sumI_congr fun k hk => ?_
  by_cases e : k = n
  · subst e
    rw [if_pos rfl]
    exact sm_in _ (Or.inr rfl) h2
  · rw [if_neg e]
    exact sm_out _ (fun q => q.elim (nI_pos (by omega)) (fun q2 => e ((nI_inj (by omega) (by omega)).mp q2).symm))
theorem overN_congr {x y : Nat → Int32} {cell : Int32} (h2 : cell ≤ 35) (h : ∀ c, c < 36 → x c = y c) : overN x cell = overN y cell := by
  unfold overN
  by_cases c0 : 0 ≤ cell
  · obtain ⟨n, hn, rfl⟩ := in_ex (n := 35) ⟨c0, h2⟩ (by omega)
    rw [if_pos c0, if_pos c0, nI_clamp (by omega), h n hn]
  · rw [if_neg c0, if_neg c0]; exact sumI_congr h
theorem X7_air_ok (f : FN) {m : Nat} (hm : m ≤ 8) (em : f 104 1 = nI m) {chim cell : Int32} (h1 : -1 ≤ chim) (h2 : chim ≤ nI m - 1) (h3 : -1 ≤ cell) (h4 : cell ≤ 35) : D_X7_air [.ref 103, .int chim, .int cell] (memOf f) = some (.int (sumI m (smS f 125 chim cell)), memOf f) := by
  have r : D_X7_sums [.ref 103, .int 125, .int chim, .int cell] (memOf f) = _ := X7_sums f (w := 125) (by omega) hm em chim cell
  simp [D_X7_air, S_X7_air, m_den, l0, Value.category, s_seq, s_if, s_st, s_ret, s_retz, s_retv, s_skip, s_sc, s_inc, s_call, e_c, e_li, e_lr, e_lj, e_un, e_bin, e_if, e_b, b_not, b_and, b_or, b_of, e_call, a_recv, a_snoc, a_nil, prI, prJ, prR, e_gi, e_gr, e_ai, e_ar, s_as, s_aop, s_pf, s_pfz, s_fop, l_set, l_ok, e_div, e_rem, e_len, s_tab, rc_103, X7_in, j_le_35, j_ge_m1, j_le, g_103_0, rd_104_1, em, h1, h2, h3, h4, r]
theorem X7_settled_ok (f : FN) {m : Nat} (hm : m ≤ 8) (em : f 104 1 = nI m) {chim cell : Int32} (h1 : -1 ≤ chim) (h2 : chim ≤ nI m - 1) (h3 : -1 ≤ cell) (h4 : cell ≤ 35) : D_X7_settled [.ref 103, .int chim, .int cell] (memOf f) = some (.int (sumI m (smS f 413 chim cell)), memOf f) := by
  have r : D_X7_sums [.ref 103, .int 413, .int chim, .int cell] (memOf f) = _ := X7_sums f (w := 413) (by omega) hm em chim cell
  simp [D_X7_settled, S_X7_settled, m_den, l0, Value.category, s_seq, s_if, s_st, s_ret, s_retz, s_retv, s_skip, s_sc, s_inc, s_call, e_c, e_li, e_lr, e_lj, e_un, e_bin, e_if, e_b, b_not, b_and, b_or, b_of, e_call, a_recv, a_snoc, a_nil, prI, prJ, prR, e_gi, e_gr, e_ai, e_ar, s_as, s_aop, s_pf, s_pfz, s_fop, l_set, l_ok, e_div, e_rem, e_len, s_tab, rc_103, X7_in, j_le_35, j_ge_m1, j_le, g_103_0, rd_104_1, em, h1, h2, h3, h4, r]
theorem X6_air_no0 (f : FN) {k c : Int32} (h : ¬ (-1 ≤ k ∧ k ≤ f 1 2 - 1 ∧ -1 ≤ c ∧ c ≤ 35)) : D_X6_air [.ref 0, .int k, .int c] (memOf f) = some (.int (-1000001), memOf (row f 81 (upd (f 81) 0 (f 81 0 + 1)))) := by
  by_cases h1 : -1 ≤ k
  · by_cases h2 : k ≤ f 1 2 - 1
    · by_cases h3 : -1 ≤ c
      · have h4 : ¬ (c ≤ 35) := fun q => h ⟨h1, h2, h3, q⟩
        simp [D_X6_air, S_X6_air, m_den, l0, Value.category, s_seq, s_if, s_st, s_ret, s_retz, s_retv, s_skip, s_sc, s_inc, s_call, e_c, e_li, e_lr, e_lj, e_un, e_bin, e_if, e_b, b_not, b_and, b_or, b_of, e_call, a_recv, a_snoc, a_nil, prI, prJ, prR, e_gi, e_gr, e_ai, e_ar, s_as, s_aop, s_pf, s_pfz, s_fop, l_set, l_ok, e_div, e_rem, e_len, s_tab, X6_isChimneyOrAll, X6_isCellOrAll, rc_0, X6_fin_0, h1, h2, h3, h4]
      · simp [D_X6_air, S_X6_air, m_den, l0, Value.category, s_seq, s_if, s_st, s_ret, s_retz, s_retv, s_skip, s_sc, s_inc, s_call, e_c, e_li, e_lr, e_lj, e_un, e_bin, e_if, e_b, b_not, b_and, b_or, b_of, e_call, a_recv, a_snoc, a_nil, prI, prJ, prR, e_gi, e_gr, e_ai, e_ar, s_as, s_aop, s_pf, s_pfz, s_fop, l_set, l_ok, e_div, e_rem, e_len, s_tab, X6_isChimneyOrAll, X6_isCellOrAll, rc_0, X6_fin_0, h1, h2, h3]
    · simp [D_X6_air, S_X6_air, m_den, l0, Value.category, s_seq, s_if, s_st, s_ret, s_retz, s_retv, s_skip, s_sc, s_inc, s_call, e_c, e_li, e_lr, e_lj, e_un, e_bin, e_if, e_b, b_not, b_and, b_or, b_of, e_call, a_recv, a_snoc, a_nil, prI, prJ, prR, e_gi, e_gr, e_ai, e_ar, s_as, s_aop, s_pf, s_pfz, s_fop, l_set, l_ok, e_div, e_rem, e_len, s_tab, X6_isChimneyOrAll, X6_isCellOrAll, rc_0, X6_fin_0, h1, h2]
  · simp [D_X6_air, S_X6_air, m_den, l0, Value.category, s_seq, s_if, s_st, s_ret, s_retz, s_retv, s_skip, s_sc, s_inc, s_call, e_c, e_li, e_lr, e_lj, e_un, e_bin, e_if, e_b, b_not, b_and, b_or, b_of, e_call, a_recv, a_snoc, a_nil, prI, prJ, prR, e_gi, e_gr, e_ai, e_ar, s_as, s_aop, s_pf, s_pfz, s_fop, l_set, l_ok, e_div, e_rem, e_len, s_tab, X6_isChimneyOrAll, X6_isCellOrAll, rc_0, X6_fin_0, h1]
theorem X7_air_no0 (f : FN) {k c : Int32} (h : ¬ (-1 ≤ k ∧ k ≤ f 104 1 - 1 ∧ -1 ≤ c ∧ c ≤ 35)) : D_X7_air [.ref 103, .int k, .int c] (memOf f) = some (.int (-1000001), memOf (row f 107 (upd (f 107) 0 (f 107 0 + 1)))) := by
  by_cases h1 : -1 ≤ k
  · by_cases h2 : k ≤ f 104 1 - 1
    · by_cases h3 : -1 ≤ c
      · have h4 : ¬ (c ≤ 35) := fun q => h ⟨h1, h2, h3, q⟩
        simp [D_X7_air, S_X7_air, m_den, l0, Value.category, s_seq, s_if, s_st, s_ret, s_retz, s_retv, s_skip, s_sc, s_inc, s_call, e_c, e_li, e_lr, e_lj, e_un, e_bin, e_if, e_b, b_not, b_and, b_or, b_of, e_call, a_recv, a_snoc, a_nil, prI, prJ, prR, e_gi, e_gr, e_ai, e_ar, s_as, s_aop, s_pf, s_pfz, s_fop, l_set, l_ok, e_div, e_rem, e_len, s_tab, X7_in, j_le_35, j_ge_m1, j_le, g_103_0, rd_104_1, rc_103, X7_fin_0, h1, h2, h3, h4]
      · simp [D_X7_air, S_X7_air, m_den, l0, Value.category, s_seq, s_if, s_st, s_ret, s_retz, s_retv, s_skip, s_sc, s_inc, s_call, e_c, e_li, e_lr, e_lj, e_un, e_bin, e_if, e_b, b_not, b_and, b_or, b_of, e_call, a_recv, a_snoc, a_nil, prI, prJ, prR, e_gi, e_gr, e_ai, e_ar, s_as, s_aop, s_pf, s_pfz, s_fop, l_set, l_ok, e_div, e_rem, e_len, s_tab, X7_in, j_le_35, j_ge_m1, j_le, g_103_0, rd_104_1, rc_103, X7_fin_0, h1, h2, h3]
    · simp [D_X7_air, S_X7_air, m_den, l0, Value.category, s_seq, s_if, s_st, s_ret, s_retz, s_retv, s_skip, s_sc, s_inc, s_call, e_c, e_li, e_lr, e_lj, e_un, e_bin, e_if, e_b, b_not, b_and, b_or, b_of, e_call, a_recv, a_snoc, a_nil, prI, prJ, prR, e_gi, e_gr, e_ai, e_ar, s_as, s_aop, s_pf, s_pfz, s_fop, l_set, l_ok, e_div, e_rem, e_len, s_tab, X7_in, j_le_35, j_ge_m1, j_le, g_103_0, rd_104_1, rc_103, X7_fin_0, h1, h2]
  · simp [D_X7_air, S_X7_air, m_den, l0, Value.category, s_seq, s_if, s_st, s_ret, s_retz, s_retv, s_skip, s_sc, s_inc, s_call, e_c, e_li, e_lr, e_lj, e_un, e_bin, e_if, e_b, b_not, b_and, b_or, b_of, e_call, a_recv, a_snoc, a_nil, prI, prJ, prR, e_gi, e_gr, e_ai, e_ar, s_as, s_aop, s_pf, s_pfz, s_fop, l_set, l_ok, e_div, e_rem, e_len, s_tab, X7_in, j_le_35, j_ge_m1, j_le, g_103_0, rd_104_1, rc_103, X7_fin_0, h1]
theorem X6_settled_no0 (f : FN) {k c : Int32} (h : ¬ (-1 ≤ k ∧ k ≤ f 1 2 - 1 ∧ -1 ≤ c ∧ c ≤ 35)) : D_X6_settled [.ref 0, .int k, .int c] (memOf f) = some (.int (-1000001), memOf (row f 81 (upd (f 81) 0 (f 81 0 + 1)))) := by
  by_cases h1 : -1 ≤ k
  · by_cases h2 : k ≤ f 1 2 - 1
    · by_cases h3 : -1 ≤ c
      · have h4 : ¬ (c ≤ 35) := fun q => h ⟨h1, h2, h3, q⟩
        simp [D_X6_settled, S_X6_settled, m_den, l0, Value.category, s_seq, s_if, s_st, s_ret, s_retz, s_retv, s_skip, s_sc, s_inc, s_call, e_c, e_li, e_lr, e_lj, e_un, e_bin, e_if, e_b, b_not, b_and, b_or, b_of, e_call, a_recv, a_snoc, a_nil, prI, prJ, prR, e_gi, e_gr, e_ai, e_ar, s_as, s_aop, s_pf, s_pfz, s_fop, l_set, l_ok, e_div, e_rem, e_len, s_tab, X6_isChimneyOrAll, X6_isCellOrAll, rc_0, X6_fin_0, h1, h2, h3, h4]
      · simp [D_X6_settled, S_X6_settled, m_den, l0, Value.category, s_seq, s_if, s_st, s_ret, s_retz, s_retv, s_skip, s_sc, s_inc, s_call, e_c, e_li, e_lr, e_lj, e_un, e_bin, e_if, e_b, b_not, b_and, b_or, b_of, e_call, a_recv, a_snoc, a_nil, prI, prJ, prR, e_gi, e_gr, e_ai, e_ar, s_as, s_aop, s_pf, s_pfz, s_fop, l_set, l_ok, e_div, e_rem, e_len, s_tab, X6_isChimneyOrAll, X6_isCellOrAll, rc_0, X6_fin_0, h1, h2, h3]
    · simp [D_X6_settled, S_X6_settled, m_den, l0, Value.category, s_seq, s_if, s_st, s_ret, s_retz, s_retv, s_skip, s_sc, s_inc, s_call, e_c, e_li, e_lr, e_lj, e_un, e_bin, e_if, e_b, b_not, b_and, b_or, b_of, e_call, a_recv, a_snoc, a_nil, prI, prJ, prR, e_gi, e_gr, e_ai, e_ar, s_as, s_aop, s_pf, s_pfz, s_fop, l_set, l_ok, e_div, e_rem, e_len, s_tab, X6_isChimneyOrAll, X6_isCellOrAll, rc_0, X6_fin_0, h1, h2]
  · simp [D_X6_settled, S_X6_settled, m_den, l0, Value.category, s_seq, s_if, s_st, s_ret, s_retz, s_retv, s_skip, s_sc, s_inc, s_call, e_c, e_li, e_lr, e_lj, e_un, e_bin, e_if, e_b, b_not, b_and, b_or, b_of, e_call, a_recv, a_snoc, a_nil, prI, prJ, prR, e_gi, e_gr, e_ai, e_ar, s_as, s_aop, s_pf, s_pfz, s_fop, l_set, l_ok, e_div, e_rem, e_len, s_tab, X6_isChimneyOrAll, X6_isCellOrAll, rc_0, X6_fin_0, h1]
theorem X7_settled_no0 (f : FN) {k c : Int32} (h : ¬ (-1 ≤ k ∧ k ≤ f 104 1 - 1 ∧ -1 ≤ c ∧ c ≤ 35)) : D_X7_settled [.ref 103, .int k, .int c] (memOf f) = some (.int (-1000001), memOf (row f 107 (upd (f 107) 0 (f 107 0 + 1)))) := by
  by_cases h1 : -1 ≤ k
  · by_cases h2 : k ≤ f 104 1 - 1
    · by_cases h3 : -1 ≤ c
      · have h4 : ¬ (c ≤ 35) := fun q => h ⟨h1, h2, h3, q⟩
        simp [D_X7_settled, S_X7_settled, m_den, l0, Value.category, s_seq, s_if, s_st, s_ret, s_retz, s_retv, s_skip, s_sc, s_inc, s_call, e_c, e_li, e_lr, e_lj, e_un, e_bin, e_if, e_b, b_not, b_and, b_or, b_of, e_call, a_recv, a_snoc, a_nil, prI, prJ, prR, e_gi, e_gr, e_ai, e_ar, s_as, s_aop, s_pf, s_pfz, s_fop, l_set, l_ok, e_div, e_rem, e_len, s_tab, X7_in, j_le_35, j_ge_m1, j_le, g_103_0, rd_104_1, rc_103, X7_fin_0, h1, h2, h3, h4]
      · simp [D_X7_settled, S_X7_settled, m_den, l0, Value.category, s_seq, s_if, s_st, s_ret, s_retz, s_retv, s_skip, s_sc, s_inc, s_call, e_c, e_li, e_lr, e_lj, e_un, e_bin, e_if, e_b, b_not, b_and, b_or, b_of, e_call, a_recv, a_snoc, a_nil, prI, prJ, prR, e_gi, e_gr, e_ai, e_ar, s_as, s_aop, s_pf, s_pfz, s_fop, l_set, l_ok, e_div, e_rem, e_len, s_tab, X7_in, j_le_35, j_ge_m1, j_le, g_103_0, rd_104_1, rc_103, X7_fin_0, h1, h2, h3]
    · simp [D_X7_settled, S_X7_settled, m_den, l0, Value.category, s_seq, s_if, s_st, s_ret, s_retz, s_retv, s_skip, s_sc, s_inc, s_call, e_c, e_li, e_lr, e_lj, e_un, e_bin, e_if, e_b, b_not, b_and, b_or, b_of, e_call, a_recv, a_snoc, a_nil, prI, prJ, prR, e_gi, e_gr, e_ai, e_ar, s_as, s_aop, s_pf, s_pfz, s_fop, l_set, l_ok, e_div, e_rem, e_len, s_tab, X7_in, j_le_35, j_ge_m1, j_le, g_103_0, rd_104_1, rc_103, X7_fin_0, h1, h2]
  · simp [D_X7_settled, S_X7_settled, m_den, l0, Value.category, s_seq, s_if, s_st, s_ret, s_retz, s_retv, s_skip, s_sc, s_inc, s_call, e_c, e_li, e_lr, e_lj, e_un, e_bin, e_if, e_b, b_not, b_and, b_or, b_of, e_call, a_recv, a_snoc, a_nil, prI, prJ, prR, e_gi, e_gr, e_ai, e_ar, s_as, s_aop, s_pf, s_pfz, s_fop, l_set, l_ok, e_div, e_rem, e_len, s_tab, X7_in, j_le_35, j_ge_m1, j_le, g_103_0, rd_104_1, rc_103, X7_fin_0, h1]
theorem agr_air {f : FN} (h : REL f) (k c : Int32) : AGR D_X6_air D_X7_air [.int k, .int c] f := by
  obtain ⟨⟨m, hT, hV⟩, -⟩ := id h
  have em : f 1 2 = nI m := hT.1.2.2.2.1
  have em' : f 104 1 = nI m := hT.1.2.1.trans em
  have hm := hT.1.2.2.2.2
  by_cases hc : -1 ≤ k ∧ k ≤ nI m - 1 ∧ -1 ≤ c ∧ c ≤ 35
  · obtain ⟨a1, a2, a3, a4⟩ := hc
    rcases m1_or a1 with rfl | a5
    · refine ⟨_, f, f, X6_air_all f hm em a3 a4, ?_, h⟩
      rw [X7_air_ok f hm em' a1 a2 a3 a4, sums_all f 125 m a4, sumI_congr (fun k hk => overN_congr a4 (fun c hc => (hT.2.2.2.2.2.1 k hk).2.1 c hc))]
    · obtain ⟨n, hn, rfl⟩ := chi_ex ⟨a5, a2⟩ hm
      refine ⟨_, f, f, X6_air_one f hn hm em a3 a4, ?_, h⟩
      rw [X7_air_ok f hm em' a1 a2 a3 a4, sums_one f 125 hn hm a4, overN_congr a4 (fun c hc => (hT.2.2.2.2.2.1 n hn).2.1 c hc)]
  · exact agr_find h (X6_air_no0 f (by rw [em]; exact hc)) (fun g hg => X7_air_no0 g (by rw [hg.1, em']; exact hc))
theorem agr_settled {f : FN} (h : REL f) (k c : Int32) : AGR D_X6_settled D_X7_settled [.int k, .int c] f := by
  obtain ⟨⟨m, hT, hV⟩, -⟩ := id h
  have em : f 1 2 = nI m := hT.1.2.2.2.1
  have em' : f 104 1 = nI m := hT.1.2.1.trans em
  have hm := hT.1.2.2.2.2
  by_cases hc : -1 ≤ k ∧ k ≤ nI m - 1 ∧ -1 ≤ c ∧ c ≤ 35
  · obtain ⟨a1, a2, a3, a4⟩ := hc
    rcases m1_or a1 with rfl | a5
    · refine ⟨_, f, f, X6_settled_all f hm em a3 a4, ?_, h⟩
      rw [X7_settled_ok f hm em' a1 a2 a3 a4, sums_all f 413 m a4, sumI_congr (fun k hk => overN_congr a4 (fun c hc => (hT.2.2.2.2.2.1 k hk).2.2.1 c hc))]
    · obtain ⟨n, hn, rfl⟩ := chi_ex ⟨a5, a2⟩ hm
      refine ⟨_, f, f, X6_settled_one f hn hm em a3 a4, ?_, h⟩
      rw [X7_settled_ok f hm em' a1 a2 a3 a4, sums_one f 413 hn hm a4, overN_congr a4 (fun c hc => (hT.2.2.2.2.2.1 n hn).2.2.1 c hc)]
  · exact agr_find h (X6_settled_no0 f (by rw [em]; exact hc)) (fun g hg => X7_settled_no0 g (by rw [hg.1, em']; exact hc))
