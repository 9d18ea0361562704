/-! strike, status: sums over rows -/
def sumI (n : Nat) (g : Nat → Int32) : Int32 := match n with
  | 0 => 0
  | n + 1 => sumI n g + g n
theorem sumI_congr {n : Nat} {g h : Nat → Int32} (e : ∀ i, i < n → g i = h i) : sumI n g = sumI n h := by
  induction n with
  | zero => rfl
  | succ n ih => show sumI n g + g n = sumI n h + h n; rw [ih (fun i hi => e i (by omega)), e n (by omega)]
theorem sumI_zero (n : Nat) : sumI n (fun _ => 0) = 0 := by
  induction n with
  | zero => rfl
  | succ n ih => show sumI n (fun _ => 0) + 0 = 0; rw [ih]; rfl
theorem sumI_one {n k : Nat} (g : Nat → Int32) (hk : k < n) : sumI n (fun i => if i = k then g i else 0) = g k := by
  induction n with
  | zero => omega
  | succ n ih =>
    show sumI n _ + (if n = k then g n else 0) = g k
    by_cases e : n = k
    · subst e
      rw [if_pos rfl, sumI_congr (h := fun _ => 0) (fun i hi => if_neg (by omega)), sumI_zero]
      exact Int32.zero_add _
    · rw [if_neg e, ih (by omega)]
      exact Int32.add_zero _
theorem nI_next (k : Nat) : nI k + 1 = nI (k + 1) := (nI_succ k).symm
theorem X6_status_no0 (f : FN) {w : Int32} (h : ¬ (-1 ≤ w ∧ w ≤ 6)) : D_X6_status [.ref 0, .int w] (memOf f) = some (.int (-1000001), memOf (row f 81 (upd (f 81) 0 (f 81 0 + 1)))) := by
  by_cases h1 : -1 ≤ w
  · have h2 : ¬ (w ≤ 6) := fun q => h ⟨h1, q⟩
    simp [D_X6_status, S_X6_status, m_den, l0, Value.category, s_seq, s_if, s_st, s_ret, s_retz, s_retv, s_skip, s_sc, s_inc, s_call, e_c, e_li, e_lr, e_lj, e_un, e_bin, e_if, e_b, b_not, b_and, b_or, b_of, e_call, a_recv, a_snoc, a_nil, prI, prJ, prR, e_gi, e_gr, e_ai, e_ar, s_as, s_aop, s_pf, s_pfz, s_fop, l_set, l_ok, e_div, e_rem, e_len, s_tab, X6_isIn, rc_0, X6_fin_0, h1, h2]
  · simp [D_X6_status, S_X6_status, m_den, l0, Value.category, s_seq, s_if, s_st, s_ret, s_retz, s_retv, s_skip, s_sc, s_inc, s_call, e_c, e_li, e_lr, e_lj, e_un, e_bin, e_if, e_b, b_not, b_and, b_or, b_of, e_call, a_recv, a_snoc, a_nil, prI, prJ, prR, e_gi, e_gr, e_ai, e_ar, s_as, s_aop, s_pf, s_pfz, s_fop, l_set, l_ok, e_div, e_rem, e_len, s_tab, X6_isIn, rc_0, X6_fin_0, h1]
theorem X7_status_no0 (f : FN) {w : Int32} (h : ¬ (-1 ≤ w ∧ w ≤ 6)) : D_X7_status [.ref 103, .int w] (memOf f) = some (.int (-1000001), memOf (row f 107 (upd (f 107) 0 (f 107 0 + 1)))) := by
  by_cases h1 : -1 ≤ w
  · have h2 : ¬ (w ≤ 6) := fun q => h ⟨h1, q⟩
    simp [D_X7_status, S_X7_status, m_den, l0, Value.category, s_seq, s_if, s_st, s_ret, s_retz, s_retv, s_skip, s_sc, s_inc, s_call, e_c, e_li, e_lr, e_lj, e_un, e_bin, e_if, e_b, b_not, b_and, b_or, b_of, e_call, a_recv, a_snoc, a_nil, prI, prJ, prR, e_gi, e_gr, e_ai, e_ar, s_as, s_aop, s_pf, s_pfz, s_fop, l_set, l_ok, e_div, e_rem, e_len, s_tab, X7_in, j_le_6, j_ge_m1, rc_103, X7_fin_0, h1, h2]
  · simp [D_X7_status, S_X7_status, m_den, l0, Value.category, s_seq, s_if, s_st, s_ret, s_retz, s_retv, s_skip, s_sc, s_inc, s_call, e_c, e_li, e_lr, e_lj, e_un, e_bin, e_if, e_b, b_not, b_and, b_or, b_of, e_call, a_recv, a_snoc, a_nil, prI, prJ, prR, e_gi, e_gr, e_ai, e_ar, s_as, s_aop, s_pf, s_pfz, s_fop, l_set, l_ok, e_div, e_rem, e_len, s_tab, X7_in, j_le_6, j_ge_m1, rc_103, X7_fin_0, h1]
theorem lt_lit {k n : Nat} (h : k < n) (hn : n < 2 ^ 31) : nI k < Int32.ofNat n := (nI_lt_iff (a := k) (b := n) (by omega) hn).mpr h
theorem nlt_lit {n : Nat} (hn : n < 2 ^ 31) : ¬ nI n < Int32.ofNat n := fun h => Nat.lt_irrefl n ((nI_lt_iff (a := n) (b := n) hn hn).mp h)
theorem X7_status_W (f : FN) (w : Int32) : W_X7_status_1 [.ref 103, .int w, .int 0, .int 0] (memOf f) = some (.inl ([.ref 103, .int w, .int (sumI 7 (fun k => if w < 0 ∨ nI k = w then f 107 k else 0)), .int (nI 7)], memOf f)) := by
  refine while_count (fun k => ([.ref 103, .int w, .int (sumI k (fun k => if w < 0 ∨ nI k = w then f 107 k else 0)), .int (nI k)], memOf f)) 7 (by unfold FU; omega) (fun k hk => ?_) (fun k hk => ?_) ?_
  · have e : nI k < (7 : Int32) := lt_lit (n := 7) hk (by omega)
    simp [WB_X7_status_1, m_den, l0, Value.category, s_seq, s_if, s_st, s_ret, s_retz, s_retv, s_skip, s_sc, s_inc, s_call, e_c, e_li, e_lr, e_lj, e_un, e_bin, e_if, e_b, b_not, b_and, b_or, b_of, e_call, a_recv, a_snoc, a_nil, prI, prJ, prR, e_gi, e_gr, e_ai, e_ar, s_as, s_aop, s_pf, s_pfz, s_fop, l_set, l_ok, e_div, e_rem, e_len, s_tab, e]
  · by_cases c1 : w < 0
    · simp [WS_X7_status_1, m_den, l0, Value.category, s_seq, s_if, s_st, s_ret, s_retz, s_retv, s_skip, s_sc, s_inc, s_call, e_c, e_li, e_lr, e_lj, e_un, e_bin, e_if, e_b, b_not, b_and, b_or, b_of, e_call, a_recv, a_snoc, a_nil, prI, prJ, prR, e_gi, e_gr, e_ai, e_ar, s_as, s_aop, s_pf, s_pfz, s_fop, l_set, l_ok, e_div, e_rem, e_len, s_tab, c1, g_103_3, rd_107 f hk, nI_next, sumI]
    · by_cases c2 : nI k = w
      · subst c2
        simp [WS_X7_status_1, m_den, l0, Value.category, s_seq, s_if, s_st, s_ret, s_retz, s_retv, s_skip, s_sc, s_inc, s_call, e_c, e_li, e_lr, e_lj, e_un, e_bin, e_if, e_b, b_not, b_and, b_or, b_of, e_call, a_recv, a_snoc, a_nil, prI, prJ, prR, e_gi, e_gr, e_ai, e_ar, s_as, s_aop, s_pf, s_pfz, s_fop, l_set, l_ok, e_div, e_rem, e_len, s_tab, c1, g_103_3, rd_107 f hk, nI_next, sumI]
      · simp [WS_X7_status_1, m_den, l0, Value.category, s_seq, s_if, s_st, s_ret, s_retz, s_retv, s_skip, s_sc, s_inc, s_call, e_c, e_li, e_lr, e_lj, e_un, e_bin, e_if, e_b, b_not, b_and, b_or, b_of, e_call, a_recv, a_snoc, a_nil, prI, prJ, prR, e_gi, e_gr, e_ai, e_ar, s_as, s_aop, s_pf, s_pfz, s_fop, l_set, l_ok, e_div, e_rem, e_len, s_tab, c1, c2, nI_next, sumI]
  · have e : ¬ nI 7 < (7 : Int32) := nlt_lit (n := 7) (by omega)
    simp [WB_X7_status_1, m_den, l0, Value.category, s_seq, s_if, s_st, s_ret, s_retz, s_retv, s_skip, s_sc, s_inc, s_call, e_c, e_li, e_lr, e_lj, e_un, e_bin, e_if, e_b, b_not, b_and, b_or, b_of, e_call, a_recv, a_snoc, a_nil, prI, prJ, prR, e_gi, e_gr, e_ai, e_ar, s_as, s_aop, s_pf, s_pfz, s_fop, l_set, l_ok, e_div, e_rem, e_len, s_tab, e]
theorem X7_status_ok (f : FN) {w : Int32} (h1 : -1 ≤ w) (h2 : w ≤ 6) : D_X7_status [.ref 103, .int w] (memOf f) = some (.int (sumI 7 (fun k => if w < 0 ∨ nI k = w then f 107 k else 0)), memOf f) := by
  simp [D_X7_status, S_X7_status, m_den, l0, Value.category, s_seq, s_if, s_st, s_ret, s_retz, s_retv, s_skip, s_sc, s_inc, s_call, e_c, e_li, e_lr, e_lj, e_un, e_bin, e_if, e_b, b_not, b_and, b_or, b_of, e_call, a_recv, a_snoc, a_nil, prI, prJ, prR, e_gi, e_gr, e_ai, e_ar, s_as, s_aop, s_pf, s_pfz, s_fop, l_set, l_ok, e_div, e_rem, e_len, s_tab, X7_in, j_le_6, j_ge_m1, h1, h2, X7_status_W]
theorem X6_status_W (f : FN) (w : Int32) : W_X6_status_1 [.ref 0, .int w, .int 0, .int 0] (memOf f) = some (.inl ([.ref 0, .int w, .int (sumI 7 (f 81)), .int (nI 7)], memOf f)) := by
  refine while_count (fun k => ([.ref 0, .int w, .int (sumI k (f 81)), .int (nI k)], memOf f)) 7 (by unfold FU; omega) (fun k hk => ?_) (fun k hk => ?_) ?_
  · have e : nI k < (7 : Int32) := lt_lit (n := 7) hk (by omega)
    simp [WB_X6_status_1, m_den, l0, Value.category, s_seq, s_if, s_st, s_ret, s_retz, s_retv, s_skip, s_sc, s_inc, s_call, e_c, e_li, e_lr, e_lj, e_un, e_bin, e_if, e_b, b_not, b_and, b_or, b_of, e_call, a_recv, a_snoc, a_nil, prI, prJ, prR, e_gi, e_gr, e_ai, e_ar, s_as, s_aop, s_pf, s_pfz, s_fop, l_set, l_ok, e_div, e_rem, e_len, s_tab, e]
  · simp [WS_X6_status_1, m_den, l0, Value.category, s_seq, s_if, s_st, s_ret, s_retz, s_retv, s_skip, s_sc, s_inc, s_call, e_c, e_li, e_lr, e_lj, e_un, e_bin, e_if, e_b, b_not, b_and, b_or, b_of, e_call, a_recv, a_snoc, a_nil, prI, prJ, prR, e_gi, e_gr, e_ai, e_ar, s_as, s_aop, s_pf, s_pfz, s_fop, l_set, l_ok, e_div, e_rem, e_len, s_tab, g_0_5, rd_81 f hk, nI_next, sumI]
  · have e : ¬ nI 7 < (7 : Int32) := nlt_lit (n := 7) (by omega)
    simp [WB_X6_status_1, m_den, l0, Value.category, s_seq, s_if, s_st, s_ret, s_retz, s_retv, s_skip, s_sc, s_inc, s_call, e_c, e_li, e_lr, e_lj, e_un, e_bin, e_if, e_b, b_not, b_and, b_or, b_of, e_call, a_recv, a_snoc, a_nil, prI, prJ, prR, e_gi, e_gr, e_ai, e_ar, s_as, s_aop, s_pf, s_pfz, s_fop, l_set, l_ok, e_div, e_rem, e_len, s_tab, e]
theorem agr_status {f : FN} (h : REL f) (w : Int32) : AGR D_X6_status D_X7_status [.int w] f := by
  by_cases hc : -1 ≤ w ∧ w ≤ 6
  · obtain ⟨-, -, -, s1, -⟩ := id h
    by_cases h0 : 0 ≤ w
    · obtain ⟨n, hn, rfl⟩ := in_ex (n := 6) ⟨h0, hc.2⟩ (by omega)
      refine ⟨f 81 n, f, f, ?_, ?_, h⟩
      · simp [D_X6_status, S_X6_status, m_den, l0, Value.category, s_seq, s_if, s_st, s_ret, s_retz, s_retv, s_skip, s_sc, s_inc, s_call, e_c, e_li, e_lr, e_lj, e_un, e_bin, e_if, e_b, b_not, b_and, b_or, b_of, e_call, a_recv, a_snoc, a_nil, prI, prJ, prR, e_gi, e_gr, e_ai, e_ar, s_as, s_aop, s_pf, s_pfz, s_fop, l_set, l_ok, e_div, e_rem, e_len, s_tab, X6_isIn, hc.1, hc.2, h0, g_0_5, rd_81 f hn]
      · rw [X7_status_ok f hc.1 hc.2, sumI_congr (h := fun i => if i = n then f 107 i else 0), sumI_one _ hn, s1 n hn]
        intro i hi
        have e1 : ¬ nI n < 0 := nI_pos (by omega)
        have e2 : (nI i = nI n) = (i = n) := propext (nI_inj (by omega) (by omega))
        simp only [e1, e2, false_or]
    · have h1 : w < 0 := Int32.not_le.mp h0
      refine ⟨sumI 7 (f 81), f, f, ?_, ?_, h⟩
      · simp [D_X6_status, S_X6_status, m_den, l0, Value.category, s_seq, s_if, s_st, s_ret, s_retz, s_retv, s_skip, s_sc, s_inc, s_call, e_c, e_li, e_lr, e_lj, e_un, e_bin, e_if, e_b, b_not, b_and, b_or, b_of, e_call, a_recv, a_snoc, a_nil, prI, prJ, prR, e_gi, e_gr, e_ai, e_ar, s_as, s_aop, s_pf, s_pfz, s_fop, l_set, l_ok, e_div, e_rem, e_len, s_tab, X6_isIn, hc.1, hc.2, h0, X6_status_W]
      · rw [X7_status_ok f hc.1 hc.2, sumI_congr (h := f 81)]
        intro i hi
        simp only [h1, true_or, if_true]
        exact (s1 i hi).symm
  · exact agr_find h (X6_status_no0 f hc) (fun g _ => X7_status_no0 g hc)
/-! strike -/
theorem J9_max (x y : Int32) (M : GM) : D_J9_max_7cf53 [.int x, .int y] M = some (.int (if y ≤ x then x else y), M) := by
  by_cases h : y ≤ x <;> simp [D_J9_max_7cf53, S_J9_max_7cf53, m_den, l0, Value.category, s_seq, s_if, s_st, s_ret, s_retz, s_retv, s_skip, s_sc, s_inc, s_call, e_c, e_li, e_lr, e_lj, e_un, e_bin, e_if, e_b, b_not, b_and, b_or, b_of, e_call, a_recv, a_snoc, a_nil, prI, prJ, prR, e_gi, e_gr, e_ai, e_ar, s_as, s_aop, s_pf, s_pfz, s_fop, l_set, l_ok, e_div, e_rem, e_len, s_tab, h]
theorem J9_min (x y : Int32) (M : GM) : D_J9_min_7cf53 [.int x, .int y] M = some (.int (if x ≤ y then x else y), M) := by
  by_cases h : x ≤ y <;> simp [D_J9_min_7cf53, S_J9_min_7cf53, m_den, l0, Value.category, s_seq, s_if, s_st, s_ret, s_retz, s_retv, s_skip, s_sc, s_inc, s_call, e_c, e_li, e_lr, e_lj, e_un, e_bin, e_if, e_b, b_not, b_and, b_or, b_of, e_call, a_recv, a_snoc, a_nil, prI, prJ, prR, e_gi, e_gr, e_ai, e_ar, s_as, s_aop, s_pf, s_pfz, s_fop, l_set, l_ok, e_div, e_rem, e_len, s_tab, h]
/-- the first n places are 0 -/
def zer (n : Nat) (g : Nat → Int32) : Nat → Int32 := fun i => if i < n then 0 else g i
theorem zer_succ (n : Nat) (g : Nat → Int32) : upd (zer n g) n 0 = zer (n + 1) g := by
  funext i
  unfold upd zer
  by_cases h : i = n
  · subst h; simp
  · by_cases h2 : i < n
    · rw [if_neg h, if_pos h2, if_pos (by omega)]
    · rw [if_neg h, if_neg h2, if_neg (by omega)]
theorem zer_at {n k : Nat} (g : Nat → Int32) (h : n ≤ k) : zer n g k = g k := by unfold zer; rw [if_neg (by omega)]
theorem zer_0 (g : Nat → Int32) : zer 0 g = g := by funext i; unfold zer; simp
def pos0 (x : Int32) : Int32 := if 0 ≤ x then x else 0
theorem X6_strike_W (f : FN) : W_X6_strike_1 [.ref 0, .int 0, .int 0] (memOf f) = some (.inl ([.ref 0, .int (sumI 6 (fun o => pos0 (f 4 o))), .int (nI 6)], memOf (row f 4 (zer 6 (f 4))))) := by
  have key := while_count (b := WB_X6_strike_1) (s := WS_X6_strike_1) (fun k => ([.ref 0, .int (sumI k (fun o => pos0 (f 4 o))), .int (nI k)], memOf (row f 4 (zer k (f 4))))) 6 (by unfold FU; omega) (fun k hk => ?_) (fun k hk => ?_) ?_
  · simp only [zer_0, row_same] at key
    exact key
  · have e : nI k < (6 : Int32) := lt_lit (n := 6) hk (by omega)
    simp [WB_X6_strike_1, m_den, l0, Value.category, s_seq, s_if, s_st, s_ret, s_retz, s_retv, s_skip, s_sc, s_inc, s_call, e_c, e_li, e_lr, e_lj, e_un, e_bin, e_if, e_b, b_not, b_and, b_or, b_of, e_call, a_recv, a_snoc, a_nil, prI, prJ, prR, e_gi, e_gr, e_ai, e_ar, s_as, s_aop, s_pf, s_pfz, s_fop, l_set, l_ok, e_div, e_rem, e_len, s_tab, e]
  · have e1 : row f 4 (zer k (f 4)) 4 k = f 4 k := by rw [row_self, zer_at _ (Nat.le_refl k)]
    have e2 : row (row f 4 (zer k (f 4))) 4 (upd (row f 4 (zer k (f 4)) 4) k 0) = row f 4 (zer (k + 1) (f 4)) := by rw [row_row, row_self, zer_succ]
    simp [WS_X6_strike_1, m_den, l0, Value.category, s_seq, s_if, s_st, s_ret, s_retz, s_retv, s_skip, s_sc, s_inc, s_call, e_c, e_li, e_lr, e_lj, e_un, e_bin, e_if, e_b, b_not, b_and, b_or, b_of, e_call, a_recv, a_snoc, a_nil, prI, prJ, prR, e_gi, e_gr, e_ai, e_ar, s_as, s_aop, s_pf, s_pfz, s_fop, l_set, l_ok, e_div, e_rem, e_len, s_tab, g_0_0, g_1_5, rd_4 _ hk, wr_4 _ hk, J9_max, e1, e2, nI_next, sumI, pos0]
  · have e : ¬ nI 6 < (6 : Int32) := nlt_lit (n := 6) (by omega)
    simp [WB_X6_strike_1, m_den, l0, Value.category, s_seq, s_if, s_st, s_ret, s_retz, s_retv, s_skip, s_sc, s_inc, s_call, e_c, e_li, e_lr, e_lj, e_un, e_bin, e_if, e_b, b_not, b_and, b_or, b_of, e_call, a_recv, a_snoc, a_nil, prI, prJ, prR, e_gi, e_gr, e_ai, e_ar, s_as, s_aop, s_pf, s_pfz, s_fop, l_set, l_ok, e_div, e_rem, e_len, s_tab, e]
