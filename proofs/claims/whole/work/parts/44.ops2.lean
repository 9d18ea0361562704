/-! wind, book, seed, wipe, tear -/
theorem X6_wind_no0 (f : FN) {c v : Int32} (h : ¬ (0 ≤ c ∧ c ≤ 23 ∧ 0 ≤ v ∧ v ≤ 4)) : D_X6_wind [.ref 0, .int c, .int v] (memOf f) = some (.int (-1000001), memOf (row f 81 (upd (f 81) 0 (f 81 0 + 1)))) := by
  by_cases h1 : 0 ≤ c
  · by_cases h2 : c ≤ 23
    · by_cases h3 : 0 ≤ v
      · have h4 : ¬ (v ≤ 4) := fun q => h ⟨h1, h2, h3, q⟩
        simp [D_X6_wind, S_X6_wind, m_den, l0, Value.category, s_seq, s_if, s_st, s_ret, s_retz, s_retv, s_skip, s_sc, s_inc, s_call, e_c, e_li, e_lr, e_lj, e_un, e_bin, e_if, e_b, b_not, b_and, b_or, b_of, e_call, a_recv, a_snoc, a_nil, prI, prJ, prR, e_gi, e_gr, e_ai, e_ar, s_as, s_aop, s_pf, s_pfz, s_fop, l_set, l_ok, e_div, e_rem, e_len, s_tab, X6_isIn, rc_0, X6_fin_0, h1, h2, h3, h4]
      · simp [D_X6_wind, S_X6_wind, m_den, l0, Value.category, s_seq, s_if, s_st, s_ret, s_retz, s_retv, s_skip, s_sc, s_inc, s_call, e_c, e_li, e_lr, e_lj, e_un, e_bin, e_if, e_b, b_not, b_and, b_or, b_of, e_call, a_recv, a_snoc, a_nil, prI, prJ, prR, e_gi, e_gr, e_ai, e_ar, s_as, s_aop, s_pf, s_pfz, s_fop, l_set, l_ok, e_div, e_rem, e_len, s_tab, X6_isIn, rc_0, X6_fin_0, h1, h2, h3]
    · simp [D_X6_wind, S_X6_wind, m_den, l0, Value.category, s_seq, s_if, s_st, s_ret, s_retz, s_retv, s_skip, s_sc, s_inc, s_call, e_c, e_li, e_lr, e_lj, e_un, e_bin, e_if, e_b, b_not, b_and, b_or, b_of, e_call, a_recv, a_snoc, a_nil, prI, prJ, prR, e_gi, e_gr, e_ai, e_ar, s_as, s_aop, s_pf, s_pfz, s_fop, l_set, l_ok, e_div, e_rem, e_len, s_tab, X6_isIn, rc_0, X6_fin_0, h1, h2]
  · simp [D_X6_wind, S_X6_wind, m_den, l0, Value.category, s_seq, s_if, s_st, s_ret, s_retz, s_retv, s_skip, s_sc, s_inc, s_call, e_c, e_li, e_lr, e_lj, e_un, e_bin, e_if, e_b, b_not, b_and, b_or, b_of, e_call, a_recv, a_snoc, a_nil, prI, prJ, prR, e_gi, e_gr, e_ai, e_ar, s_as, s_aop, s_pf, s_pfz, s_fop, l_set, l_ok, e_div, e_rem, e_len, s_tab, X6_isIn, rc_0, X6_fin_0, h1]
theorem X7_wind_no0 (f : FN) {c v : Int32} (h : ¬ (0 ≤ c ∧ c ≤ 23 ∧ 0 ≤ v ∧ v ≤ 4)) : D_X7_wind [.ref 103, .int c, .int v] (memOf f) = some (.int (-1000001), memOf (row f 107 (upd (f 107) 0 (f 107 0 + 1)))) := by
  by_cases h1 : 0 ≤ c
  · by_cases h2 : c ≤ 23
    · by_cases h3 : 0 ≤ v
      · have h4 : ¬ (v ≤ 4) := fun q => h ⟨h1, h2, h3, q⟩
        simp [D_X7_wind, S_X7_wind, m_den, l0, Value.category, s_seq, s_if, s_st, s_ret, s_retz, s_retv, s_skip, s_sc, s_inc, s_call, e_c, e_li, e_lr, e_lj, e_un, e_bin, e_if, e_b, b_not, b_and, b_or, b_of, e_call, a_recv, a_snoc, a_nil, prI, prJ, prR, e_gi, e_gr, e_ai, e_ar, s_as, s_aop, s_pf, s_pfz, s_fop, l_set, l_ok, e_div, e_rem, e_len, s_tab, X7_isClock, X7_in, j_le_4, j_ge_0, rc_103, X7_fin_0, h1, h2, h3, h4]
      · simp [D_X7_wind, S_X7_wind, m_den, l0, Value.category, s_seq, s_if, s_st, s_ret, s_retz, s_retv, s_skip, s_sc, s_inc, s_call, e_c, e_li, e_lr, e_lj, e_un, e_bin, e_if, e_b, b_not, b_and, b_or, b_of, e_call, a_recv, a_snoc, a_nil, prI, prJ, prR, e_gi, e_gr, e_ai, e_ar, s_as, s_aop, s_pf, s_pfz, s_fop, l_set, l_ok, e_div, e_rem, e_len, s_tab, X7_isClock, X7_in, j_le_4, j_ge_0, rc_103, X7_fin_0, h1, h2, h3]
    · simp [D_X7_wind, S_X7_wind, m_den, l0, Value.category, s_seq, s_if, s_st, s_ret, s_retz, s_retv, s_skip, s_sc, s_inc, s_call, e_c, e_li, e_lr, e_lj, e_un, e_bin, e_if, e_b, b_not, b_and, b_or, b_of, e_call, a_recv, a_snoc, a_nil, prI, prJ, prR, e_gi, e_gr, e_ai, e_ar, s_as, s_aop, s_pf, s_pfz, s_fop, l_set, l_ok, e_div, e_rem, e_len, s_tab, X7_isClock, X7_in, j_le_4, j_ge_0, rc_103, X7_fin_0, h1, h2]
  · simp [D_X7_wind, S_X7_wind, m_den, l0, Value.category, s_seq, s_if, s_st, s_ret, s_retz, s_retv, s_skip, s_sc, s_inc, s_call, e_c, e_li, e_lr, e_lj, e_un, e_bin, e_if, e_b, b_not, b_and, b_or, b_of, e_call, a_recv, a_snoc, a_nil, prI, prJ, prR, e_gi, e_gr, e_ai, e_ar, s_as, s_aop, s_pf, s_pfz, s_fop, l_set, l_ok, e_div, e_rem, e_len, s_tab, X7_isClock, X7_in, j_le_4, j_ge_0, rc_103, X7_fin_0, h1]
theorem X6_wind_ok (f : FN) {n : Nat} (hn : n < 24) {o : Int32} (h1 : 0 ≤ o) (h2 : o ≤ 4) : D_X6_wind [.ref 0, .int (nI n), .int o] (memOf f) = some (.int (f 3 n), memOf (row f 3 (upd (f 3) n o))) := by
  have e1 : (0 : Int32) ≤ nI n := nI_pos' (by omega)
  have e2 : nI n ≤ (23 : Int32) := le_lit (n := 23) (by omega) (by omega)
  simp [D_X6_wind, S_X6_wind, m_den, l0, Value.category, s_seq, s_if, s_st, s_ret, s_retz, s_retv, s_skip, s_sc, s_inc, s_call, e_c, e_li, e_lr, e_lj, e_un, e_bin, e_if, e_b, b_not, b_and, b_or, b_of, e_call, a_recv, a_snoc, a_nil, prI, prJ, prR, e_gi, e_gr, e_ai, e_ar, s_as, s_aop, s_pf, s_pfz, s_fop, l_set, l_ok, e_div, e_rem, e_len, s_tab, X6_isIn, e1, e2, h1, h2, g_0_0, g_1_4, rd_3 f hn, wr_3 f hn]
theorem X7_wind_ok (f : FN) {n : Nat} (hn : n < 24) {o : Int32} (h1 : 0 ≤ o) (h2 : o ≤ 4) : D_X7_wind [.ref 103, .int (nI n), .int o] (memOf f) = some (.int (f 104 (39 + n)), memOf (row f 104 (upd (f 104) (39 + n) o))) := by
  have e1 : (0 : Int32) ≤ nI n := nI_pos' (by omega)
  have e2 : nI n ≤ (23 : Int32) := le_lit (n := 23) (by omega) (by omega)
  have e3 : (39 : Int32) + nI n = nI (39 + n) := nI_a 39 n
  simp [D_X7_wind, S_X7_wind, m_den, l0, Value.category, s_seq, s_if, s_st, s_ret, s_retz, s_retv, s_skip, s_sc, s_inc, s_call, e_c, e_li, e_lr, e_lj, e_un, e_bin, e_if, e_b, b_not, b_and, b_or, b_of, e_call, a_recv, a_snoc, a_nil, prI, prJ, prR, e_gi, e_gr, e_ai, e_ar, s_as, s_aop, s_pf, s_pfz, s_fop, l_set, l_ok, e_div, e_rem, e_len, s_tab, X7_isClock, X7_in, j_le_4, j_ge_0, e1, e2, h1, h2, e3, g_103_0, rd_104 f (show 39 + n < 735 by omega), wr_104 f (show 39 + n < 735 by omega)]
/-- a change outside towns and rows -/
theorem REL.frame {f g : FN} (h : REL f) (h0 : ∀ j, 1 ≤ j → j ≤ 76 → g j = f j) (h1 : g 104 = f 104 ∧ g 105 = f 105) (hk : g 0 2 = g 103 4 ∧ (g 0 2 = 0 ∨ g 0 2 = 1) ∧ (g 0 2 = 1 → f 0 2 = 1)) (hs : SR2 g) : REL g := by
  obtain ⟨⟨m, a1, a2⟩, -, b3, -⟩ := h
  refine ⟨⟨m, ?_, by rw [h1.1]; exact a2⟩, ⟨hk.1, hk.2.1⟩, fun hq => ?_, hs⟩
  · rw [h1.1]; exact a1.congr fun j h1 h2 => h0 j (by omega) (by omega)
  · obtain ⟨m', c1, c2⟩ := b3 (hk.2.2 hq)
    refine ⟨m', ?_, by rw [h1.2]; exact c2⟩
    rw [h1.2]; exact c1.congr fun j h1 h2 => h0 j (by omega) (by omega)
/-- one number of the town outside the chimneys, and its place in the row, get a new value -/
theorem REL.plain {f : FN} (h : REL f) {m : Nat} (hT : TR f 1 (f 104) m) (hV : TV (f 104) m) {x k i : Nat} {v : Int32} (hx : (x = 1 ∧ k = 1 ∧ i = 2) ∨ (x = 2 ∧ k < 36 ∧ i = 3 + k) ∨ (x = 3 ∧ k < 24 ∧ i = 39 + k) ∨ (x = 5 ∧ k < 10 ∧ i = 725 + k)) (hr : ∀ c, c < 36 → i = 3 + c → v = -1 ∨ ∃ o, o < 6 ∧ v = nI o) (hw : ∀ c, c < 24 → i = 39 + c → ∃ w, w < 5 ∧ v = nI w) (hs : ∀ s, s < 10 → i = 725 + s → v = -1 ∨ ∃ k, k < m ∧ v = nI k) : REL (row (row f x (upd (f x) k v)) 104 (upd (f 104) i v)) := by
  have e2 : row (row f x (upd (f x) k v)) 104 (upd (f 104) i v) 104 = upd (f 104) i v := row_self _ _ _
  refine h.town (m := m) (fun j hj => ?_) ⟨?_, ?_⟩ ?_ ?_
  · rw [row_ne _ _ (by omega), row_ne _ _ (by omega)]
  · rw [row_ne _ _ (by omega), row_ne _ _ (by omega)]
  · rw [row_ne _ _ (by omega), row_ne _ _ (by omega)]
  · rw [e2]
    exact (hT.plain (x := x) (k := k) (i := i) (v := v) (by omega)).congr (fun j h1 h2 => row_ne _ _ (by omega))
  · rw [e2]
    obtain ⟨-, v1, v2, v3, v4⟩ := id hV
    have hm := hT.1.2.2.2.2
    refine hV.sig hm (fun j hj => upd_ne _ _ (by omega)) (fun c hc => ?_) (fun c hc => ?_) (fun c hc => ?_) (fun k hk j hj => ?_)
    · by_cases ec : 3 + c = i
      · rw [ec, upd_self]; exact hr c hc ec.symm
      · rw [upd_ne _ _ ec]; exact v1 c hc
    · by_cases ec : 39 + c = i
      · rw [ec, upd_self]; exact hw c hc ec.symm
      · rw [upd_ne _ _ ec]; exact v2 c hc
    · by_cases ec : 725 + c = i
      · rw [ec, upd_self]; exact hs c hc ec.symm
      · rw [upd_ne _ _ ec]; exact v3 c hc
    · rw [upd_ne _ _ (by omega)]; exact v4 k hk j hj
theorem agr_wind {f : FN} (h : REL f) (c o : Int32) : AGR D_X6_wind D_X7_wind [.int c, .int o] f := by
  by_cases hc : 0 ≤ c ∧ c ≤ 23 ∧ 0 ≤ o ∧ o ≤ 4
  · obtain ⟨n, hn, rfl⟩ := in_ex (n := 23) ⟨hc.1, hc.2.1⟩ (by omega)
    obtain ⟨⟨m, hT, hV⟩, -⟩ := id h
    have e : f 3 n = f 104 (39 + n) := (hT.2.2.1 n hn).symm
    refine ⟨f 3 n, _, row (row f 3 (upd (f 3) n o)) 104 (upd (f 104) (39 + n) o), X6_wind_ok f hn hc.2.2.1 hc.2.2.2, ?_, h.plain hT hV (by omega) (by omega) (fun w hw _ => in_ex (n := 4) ⟨hc.2.2.1, hc.2.2.2⟩ (by omega)) (by omega)⟩
    rw [X7_wind_ok _ hn hc.2.2.1 hc.2.2.2, row_ne _ _ (by omega), e]
  · exact agr_find h (X6_wind_no0 f hc) (fun g _ => X7_wind_no0 g hc)
theorem X6_book_no0 (f : FN) {o : Int32} (h : ¬ (0 ≤ o ∧ o ≤ 5)) : D_X6_book [.ref 0, .int o] (memOf f) = some (.int (-1000001), memOf (row f 81 (upd (f 81) 0 (f 81 0 + 1)))) := by
  by_cases h1 : 0 ≤ o
  · have h2 : ¬ (o ≤ 5) := fun q => h ⟨h1, q⟩
    simp [D_X6_book, S_X6_book, m_den, l0, Value.category, s_seq, s_if, s_st, s_ret, s_retz, s_retv, s_skip, s_sc, s_inc, s_call, e_c, e_li, e_lr, e_lj, e_un, e_bin, e_if, e_b, b_not, b_and, b_or, b_of, e_call, a_recv, a_snoc, a_nil, prI, prJ, prR, e_gi, e_gr, e_ai, e_ar, s_as, s_aop, s_pf, s_pfz, s_fop, l_set, l_ok, e_div, e_rem, e_len, s_tab, X6_isOwner, rc_0, X6_fin_0, h1, h2]
  · simp [D_X6_book, S_X6_book, m_den, l0, Value.category, s_seq, s_if, s_st, s_ret, s_retz, s_retv, s_skip, s_sc, s_inc, s_call, e_c, e_li, e_lr, e_lj, e_un, e_bin, e_if, e_b, b_not, b_and, b_or, b_of, e_call, a_recv, a_snoc, a_nil, prI, prJ, prR, e_gi, e_gr, e_ai, e_ar, s_as, s_aop, s_pf, s_pfz, s_fop, l_set, l_ok, e_div, e_rem, e_len, s_tab, X6_isOwner, rc_0, X6_fin_0, h1]
theorem X7_book_no0 (f : FN) {o : Int32} (h : ¬ (0 ≤ o ∧ o ≤ 5)) : D_X7_book [.ref 103, .int o] (memOf f) = some (.int (-1000001), memOf (row f 107 (upd (f 107) 0 (f 107 0 + 1)))) := by
  by_cases h1 : 0 ≤ o
  · have h2 : ¬ (o ≤ 5) := fun q => h ⟨h1, q⟩
    simp [D_X7_book, S_X7_book, m_den, l0, Value.category, s_seq, s_if, s_st, s_ret, s_retz, s_retv, s_skip, s_sc, s_inc, s_call, e_c, e_li, e_lr, e_lj, e_un, e_bin, e_if, e_b, b_not, b_and, b_or, b_of, e_call, a_recv, a_snoc, a_nil, prI, prJ, prR, e_gi, e_gr, e_ai, e_ar, s_as, s_aop, s_pf, s_pfz, s_fop, l_set, l_ok, e_div, e_rem, e_len, s_tab, X7_isOwner, rc_103, X7_fin_0, h1, h2]
  · simp [D_X7_book, S_X7_book, m_den, l0, Value.category, s_seq, s_if, s_st, s_ret, s_retz, s_retv, s_skip, s_sc, s_inc, s_call, e_c, e_li, e_lr, e_lj, e_un, e_bin, e_if, e_b, b_not, b_and, b_or, b_of, e_call, a_recv, a_snoc, a_nil, prI, prJ, prR, e_gi, e_gr, e_ai, e_ar, s_as, s_aop, s_pf, s_pfz, s_fop, l_set, l_ok, e_div, e_rem, e_len, s_tab, X7_isOwner, rc_103, X7_fin_0, h1]
theorem agr_book {f : FN} (h : REL f) (o : Int32) : AGR D_X6_book D_X7_book [.int o] f := by
  by_cases hc : 0 ≤ o ∧ o ≤ 5
  · obtain ⟨n, hn, rfl⟩ := in_ex (n := 5) hc (by omega)
    obtain ⟨⟨m, hT, hV⟩, -⟩ := id h
    have e : f 4 n = f 104 (119 + n) := (hT.2.2.2.1 n hn).symm
    have e3 : (119 : Int32) + nI n = nI (119 + n) := nI_a 119 n
    refine ⟨f 4 n, f, f, ?_, ?_, h⟩
    · simp [D_X6_book, S_X6_book, m_den, l0, Value.category, s_seq, s_if, s_st, s_ret, s_retz, s_retv, s_skip, s_sc, s_inc, s_call, e_c, e_li, e_lr, e_lj, e_un, e_bin, e_if, e_b, b_not, b_and, b_or, b_of, e_call, a_recv, a_snoc, a_nil, prI, prJ, prR, e_gi, e_gr, e_ai, e_ar, s_as, s_aop, s_pf, s_pfz, s_fop, l_set, l_ok, e_div, e_rem, e_len, s_tab, X6_isOwner, hc.1, hc.2, g_0_0, g_1_5, rd_4 f hn]
    · simp [D_X7_book, S_X7_book, m_den, l0, Value.category, s_seq, s_if, s_st, s_ret, s_retz, s_retv, s_skip, s_sc, s_inc, s_call, e_c, e_li, e_lr, e_lj, e_un, e_bin, e_if, e_b, b_not, b_and, b_or, b_of, e_call, a_recv, a_snoc, a_nil, prI, prJ, prR, e_gi, e_gr, e_ai, e_ar, s_as, s_aop, s_pf, s_pfz, s_fop, l_set, l_ok, e_div, e_rem, e_len, s_tab, X7_isOwner, hc.1, hc.2, e3, g_103_0, rd_104 f (show 119 + n < 735 by omega), e]
  · exact agr_find h (X6_book_no0 f hc) (fun g _ => X7_book_no0 g hc)
theorem rd_104_0 (f : FN) : gm_rd (memOf f) 104 0 = some (f 104 0) := rd_104 f (k := 0) (by omega)
theorem rd_104_1 (f : FN) : gm_rd (memOf f) 104 1 = some (f 104 1) := rd_104 f (k := 1) (by omega)
theorem rd_104_2 (f : FN) : gm_rd (memOf f) 104 2 = some (f 104 2) := rd_104 f (k := 2) (by omega)
theorem wr_104_0 (f : FN) (x : Int32) : gm_wr (memOf f) 104 0 x = some (memOf (row f 104 (upd (f 104) 0 x))) := wr_104 f (k := 0) (by omega) x
theorem wr_104_1 (f : FN) (x : Int32) : gm_wr (memOf f) 104 1 x = some (memOf (row f 104 (upd (f 104) 1 x))) := wr_104 f (k := 1) (by omega) x
theorem wr_104_2 (f : FN) (x : Int32) : gm_wr (memOf f) 104 2 x = some (memOf (row f 104 (upd (f 104) 2 x))) := wr_104 f (k := 2) (by omega) x
theorem agr_seed {f : FN} (h : REL f) (v : Int32) : AGR D_X6_seed D_X7_seed [.int v] f := by
  obtain ⟨⟨m, hT, hV⟩, -⟩ := id h
  have e : f 1 1 = f 104 2 := hT.1.2.2.1.symm
  refine ⟨f 1 1, row f 1 (upd (f 1) 1 v), row (row f 1 (upd (f 1) 1 v)) 104 (upd (f 104) 2 v), ?_, ?_, h.plain hT hV (by omega) (by omega) (by omega) (by omega)⟩
  · simp [D_X6_seed, S_X6_seed, m_den, l0, Value.category, s_seq, s_if, s_st, s_ret, s_retz, s_retv, s_skip, s_sc, s_inc, s_call, e_c, e_li, e_lr, e_lj, e_un, e_bin, e_if, e_b, b_not, b_and, b_or, b_of, e_call, a_recv, a_snoc, a_nil, prI, prJ, prR, e_gi, e_gr, e_ai, e_ar, s_as, s_aop, s_pf, s_pfz, s_fop, l_set, l_ok, e_div, e_rem, e_len, s_tab, g_0_0, g_1_1, p_1_1]
  · simp [D_X7_seed, S_X7_seed, m_den, l0, Value.category, s_seq, s_if, s_st, s_ret, s_retz, s_retv, s_skip, s_sc, s_inc, s_call, e_c, e_li, e_lr, e_lj, e_un, e_bin, e_if, e_b, b_not, b_and, b_or, b_of, e_call, a_recv, a_snoc, a_nil, prI, prJ, prR, e_gi, e_gr, e_ai, e_ar, s_as, s_aop, s_pf, s_pfz, s_fop, l_set, l_ok, e_div, e_rem, e_len, s_tab, g_103_0, rd_104_2, wr_104_2, row_ne, e]
theorem agr_wipe {f : FN} (h : REL f) : AGR D_X6_wipe D_X7_wipe [] f := by
  obtain ⟨-, -, -, s1, ⟨t, t1, t2, t3⟩, s3, s4⟩ := id h
  refine ⟨nI t, row f 78 (upd (f 78) 1 0), row (row f 78 (upd (f 78) 1 0)) 103 (upd (f 103) 12 0), ?_, ?_, ?_⟩
  · simp [D_X6_wipe, S_X6_wipe, m_den, l0, Value.category, s_seq, s_if, s_st, s_ret, s_retz, s_retv, s_skip, s_sc, s_inc, s_call, e_c, e_li, e_lr, e_lj, e_un, e_bin, e_if, e_b, b_not, b_and, b_or, b_of, e_call, a_recv, a_snoc, a_nil, prI, prJ, prR, e_gi, e_gr, e_ai, e_ar, s_as, s_aop, s_pf, s_pfz, s_fop, l_set, l_ok, e_div, e_rem, e_len, s_tab, g_0_3, g_77_0, g_78_1, p_78_1, t2]
  · simp [D_X7_wipe, S_X7_wipe, m_den, l0, Value.category, s_seq, s_if, s_st, s_ret, s_retz, s_retv, s_skip, s_sc, s_inc, s_call, e_c, e_li, e_lr, e_lj, e_un, e_bin, e_if, e_b, b_not, b_and, b_or, b_of, e_call, a_recv, a_snoc, a_nil, prI, prJ, prR, e_gi, e_gr, e_ai, e_ar, s_as, s_aop, s_pf, s_pfz, s_fop, l_set, l_ok, e_div, e_rem, e_len, s_tab, g_103_12, p_103_12, row_ne, t3]
  · refine h.frame (fun j h1 h2 => by rw [row_ne _ _ (by omega), row_ne _ _ (by omega)]) ⟨by rw [row_ne _ _ (by omega), row_ne _ _ (by omega)], by rw [row_ne _ _ (by omega), row_ne _ _ (by omega)]⟩ ?_ ⟨?_, ⟨0, by omega, ?_, ?_⟩, ?_, fun s hs => ?_⟩
    · rw [row_ne _ _ (show (0 : Nat) ≠ 103 by omega), row_ne _ _ (show (0 : Nat) ≠ 78 by omega), row_self, upd_ne _ _ (by omega)]
      exact ⟨h.2.1.1, h.2.1.2, fun q => q⟩
    · rw [row_ne _ _ (by omega), row_ne _ _ (by omega), row_ne _ _ (by omega), row_ne _ _ (by omega)]; exact s1
    · rw [row_ne _ _ (by omega), row_self, upd_self]; rfl
    · rw [row_self, upd_self]; rfl
    · rw [row_ne _ _ (by omega), row_ne _ _ (by omega), row_ne _ _ (by omega), row_ne _ _ (by omega)]; exact s3
    · have e : ∀ i, i ≠ 103 → i ≠ 78 → row (row f 78 (upd (f 78) 1 0)) 103 (upd (f 103) 12 0) i = f i := fun i h1 h2 => by rw [row_ne _ _ h1, row_ne _ _ h2]
      rw [e 112 (by omega) (by omega), e 113 (by omega) (by omega), e 114 (by omega) (by omega), e (95 + 2 * s) (by omega) (by omega), e (96 + 2 * s) (by omega) (by omega)]; exact s4 s hs
theorem agr_tear {f : FN} (h : REL f) : AGR D_X6_tear D_X7_tear [] f := by
  obtain ⟨hT, ⟨b1, b2⟩, b3, s⟩ := id h
  refine ⟨f 0 2, row f 0 (upd (f 0) 2 0), row (row f 0 (upd (f 0) 2 0)) 103 (upd (f 103) 4 0), ?_, ?_, ?_⟩
  · rcases b2 with b2 | b2 <;> simp [D_X6_tear, S_X6_tear, m_den, l0, Value.category, s_seq, s_if, s_st, s_ret, s_retz, s_retv, s_skip, s_sc, s_inc, s_call, e_c, e_li, e_lr, e_lj, e_un, e_bin, e_if, e_b, b_not, b_and, b_or, b_of, e_call, a_recv, a_snoc, a_nil, prI, prJ, prR, e_gi, e_gr, e_ai, e_ar, s_as, s_aop, s_pf, s_pfz, s_fop, l_set, l_ok, e_div, e_rem, e_len, s_tab, g_0_2, p_0_2, b2]
  · rw [b1] at b2
    rcases b2 with b2 | b2 <;> simp [D_X7_tear, S_X7_tear, m_den, l0, Value.category, s_seq, s_if, s_st, s_ret, s_retz, s_retv, s_skip, s_sc, s_inc, s_call, e_c, e_li, e_lr, e_lj, e_un, e_bin, e_if, e_b, b_not, b_and, b_or, b_of, e_call, a_recv, a_snoc, a_nil, prI, prJ, prR, e_gi, e_gr, e_ai, e_ar, s_as, s_aop, s_pf, s_pfz, s_fop, l_set, l_ok, e_div, e_rem, e_len, s_tab, g_103_4, p_103_4, row_ne, b1, b2]
  · have e : ∀ i, i ≠ 103 → i ≠ 0 → row (row f 0 (upd (f 0) 2 0)) 103 (upd (f 103) 4 0) i = f i := fun i h1 h2 => by rw [row_ne _ _ h1, row_ne _ _ h2]
    have e0 : row (row f 0 (upd (f 0) 2 0)) 103 (upd (f 103) 4 0) 0 2 = 0 := by rw [row_ne _ _ (by omega), row_self, upd_self]
    refine h.frame (fun j h1 h2 => e j (by omega) (by omega)) ⟨e _ (by omega) (by omega), e _ (by omega) (by omega)⟩ ?_ ?_
    · rw [e0, row_self, upd_self]
      exact ⟨rfl, Or.inl rfl, fun q => absurd q (by decide)⟩
    · obtain ⟨s1, s2, s3, s4⟩ := s
      refine ⟨?_, ?_, ?_, fun s hs => ?_⟩
      · rw [e 81 (by omega) (by omega), e 107 (by omega) (by omega)]; exact s1
      · rw [e 78 (by omega) (by omega), row_self, upd_ne _ _ (by omega)]; exact s2
      · rw [e 79 (by omega) (by omega), e 111 (by omega) (by omega)]; exact s3
      · rw [e 112 (by omega) (by omega), e 113 (by omega) (by omega), e 114 (by omega) (by omega), e (95 + 2 * s) (by omega) (by omega), e (96 + 2 * s) (by omega) (by omega)]; exact s4 s hs
