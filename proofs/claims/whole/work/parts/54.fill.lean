/-! Arrays.fill; sheet -/
def fil (n : Nat) (x : Int32) (g : Nat → Int32) : Nat → Int32 := fun i => if i < n then x else g i
theorem fil_0 (x : Int32) (g : Nat → Int32) : fil 0 x g = g := by funext i; unfold fil; simp
theorem fil_succ (n : Nat) (x : Int32) (g : Nat → Int32) : upd (fil n x g) n x = fil (n + 1) x g := by
  funext i
  unfold upd fil
  by_cases h : i = n
  · subst h; simp
  · by_cases h2 : i < n
    · rw [if_neg h, if_pos h2, if_pos (by omega)]
    · rw [if_neg h, if_neg h2, if_neg (by omega)]
theorem fil_in {n i : Nat} (x : Int32) (g : Nat → Int32) (h : i < n) : fil n x g i = x := by unfold fil; rw [if_pos h]
theorem J7_fill (f : FN) {i n : Nat} (hi : shp[i]? = some (ia n)) (hn : n ≤ 200) (x : Int32) : D_J7_fill_53178 [.ref i, .int x] (memOf f) = some (.null, memOf (row f i (fil n x (f i)))) := by
  have ln : ∀ g : FN, (memOf g)[i]? = some (10, sl_of (g i) (List.replicate n none)) := fun g => mem_of g hi
  have W : W_J7_fill_53178_1 [.ref i, .int x, .int 0, .int (nI n)] (memOf f) = some (.inl ([.ref i, .int x, .int (nI n), .int (nI n)], memOf (row f i (fil n x (f i))))) := by
    have key := while_count (b := WB_J7_fill_53178_1) (s := WS_J7_fill_53178_1) (fun k => ([.ref i, .int x, .int (nI k), .int (nI n)], memOf (row f i (fil k x (f i))))) n (by unfold FU; omega) (fun k hk => ?_) (fun k hk => ?_) ?_
    · simp only [fil_0, row_same] at key
      exact key
    · have e : nI k < nI n := (nI_lt_iff (by omega) (by omega)).mpr hk
      simp [WB_J7_fill_53178_1, m_den, l0, Value.category, s_seq, s_if, s_st, s_ret, s_retz, s_retv, s_skip, s_sc, s_inc, s_call, e_c, e_li, e_lr, e_lj, e_un, e_bin, e_if, e_b, b_not, b_and, b_or, b_of, e_call, a_recv, a_snoc, a_nil, prI, prJ, prR, e_gi, e_gr, e_ai, e_ar, s_as, s_aop, s_pf, s_pfz, s_fop, l_set, l_ok, e_div, e_rem, e_len, s_tab, e]
    · have e2 : row (row f i (fil k x (f i))) i (upd (row f i (fil k x (f i)) i) k x) = row f i (fil (k + 1) x (f i)) := by rw [row_row, row_self, fil_succ]
      simp [WS_J7_fill_53178_1, m_den, l0, Value.category, s_seq, s_if, s_st, s_ret, s_retz, s_retv, s_skip, s_sc, s_inc, s_call, e_c, e_li, e_lr, e_lj, e_un, e_bin, e_if, e_b, b_not, b_and, b_or, b_of, e_call, a_recv, a_snoc, a_nil, prI, prJ, prR, e_gi, e_gr, e_ai, e_ar, s_as, s_aop, s_pf, s_pfz, s_fop, l_set, l_ok, e_div, e_rem, e_len, s_tab, wr_nI _ hi (by omega) hk, e2, nI_next]
    · have e : ¬ nI n < nI n := Int32.lt_irrefl
      simp [WB_J7_fill_53178_1, m_den, l0, Value.category, s_seq, s_if, s_st, s_ret, s_retz, s_retv, s_skip, s_sc, s_inc, s_call, e_c, e_li, e_lr, e_lj, e_un, e_bin, e_if, e_b, b_not, b_and, b_or, b_of, e_call, a_recv, a_snoc, a_nil, prI, prJ, prR, e_gi, e_gr, e_ai, e_ar, s_as, s_aop, s_pf, s_pfz, s_fop, l_set, l_ok, e_div, e_rem, e_len, s_tab, e]
  have e0 : Int32.ofNat n = nI n := rfl
  simp [D_J7_fill_53178, S_J7_fill_53178, m_den, l0, Value.category, s_seq, s_if, s_st, s_ret, s_retz, s_retv, s_skip, s_sc, s_inc, s_call, e_c, e_li, e_lr, e_lj, e_un, e_bin, e_if, e_b, b_not, b_and, b_or, b_of, e_call, a_recv, a_snoc, a_nil, prI, prJ, prR, e_gi, e_gr, e_ai, e_ar, s_as, s_aop, s_pf, s_pfz, s_fop, l_set, l_ok, e_div, e_rem, e_len, s_tab, ln, sl_len, e0, W]
def zat (b n : Nat) (g : Nat → Int32) : Nat → Int32 := fun i => if b ≤ i ∧ i < b + n then 0 else g i
theorem zat_0 (b : Nat) (g : Nat → Int32) : zat b 0 g = g := by funext i; unfold zat; rw [if_neg (by omega)]
theorem zat_succ (b n : Nat) (g : Nat → Int32) : upd (zat b n g) (b + n) 0 = zat b (n + 1) g := by
  funext i
  unfold upd zat
  by_cases h : i = b + n
  · rw [if_pos h, if_pos (by omega)]
  · by_cases h2 : b ≤ i ∧ i < b + n
    · rw [if_neg h, if_pos h2, if_pos (by omega)]
    · rw [if_neg h, if_neg h2, if_neg (by omega)]
theorem X7_sheet_W (f : FN) {s : Nat} (hs : s < 4) (b n : Int32) : W_X7_sheet_1 [.ref 103, .int (nI s), .int b, .int n, .int 0] (memOf f) = some (.inl ([.ref 103, .int (nI s), .int b, .int n, .int (nI 40)], memOf (row f 114 (zat (40 * s) 40 (f 114))))) := by
  have key := while_count (b := WB_X7_sheet_1) (s := WS_X7_sheet_1) (fun k => ([.ref 103, .int (nI s), .int b, .int n, .int (nI k)], memOf (row f 114 (zat (40 * s) k (f 114))))) 40 (by unfold FU; omega) (fun k hk => ?_) (fun k hk => ?_) ?_
  · simp only [zat_0, row_same] at key
    exact key
  · have e : nI k < (40 : Int32) := lt_lit (n := 40) hk (by omega)
    simp [WB_X7_sheet_1, m_den, l0, Value.category, s_seq, s_if, s_st, s_ret, s_retz, s_retv, s_skip, s_sc, s_inc, s_call, e_c, e_li, e_lr, e_lj, e_un, e_bin, e_if, e_b, b_not, b_and, b_or, b_of, e_call, a_recv, a_snoc, a_nil, prI, prJ, prR, e_gi, e_gr, e_ai, e_ar, s_as, s_aop, s_pf, s_pfz, s_fop, l_set, l_ok, e_div, e_rem, e_len, s_tab, e]
  · have e2 : row (row f 114 (zat (40 * s) k (f 114))) 114 (upd (row f 114 (zat (40 * s) k (f 114)) 114) (40 * s + k) 0) = row f 114 (zat (40 * s) (k + 1) (f 114)) := by rw [row_row, row_self, zat_succ]
    simp [WS_X7_sheet_1, m_den, l0, Value.category, s_seq, s_if, s_st, s_ret, s_retz, s_retv, s_skip, s_sc, s_inc, s_call, e_c, e_li, e_lr, e_lj, e_un, e_bin, e_if, e_b, b_not, b_and, b_or, b_of, e_call, a_recv, a_snoc, a_nil, prI, prJ, prR, e_gi, e_gr, e_ai, e_ar, s_as, s_aop, s_pf, s_pfz, s_fop, l_set, l_ok, e_div, e_rem, e_len, s_tab, g_103_19, i40, wr_114 _ (show 40 * s + k < 160 by omega), e2, nI_next]
  · have e : ¬ nI 40 < (40 : Int32) := nlt_lit (n := 40) (by omega)
    simp [WB_X7_sheet_1, m_den, l0, Value.category, s_seq, s_if, s_st, s_ret, s_retz, s_retv, s_skip, s_sc, s_inc, s_call, e_c, e_li, e_lr, e_lj, e_un, e_bin, e_if, e_b, b_not, b_and, b_or, b_of, e_call, a_recv, a_snoc, a_nil, prI, prJ, prR, e_gi, e_gr, e_ai, e_ar, s_as, s_aop, s_pf, s_pfz, s_fop, l_set, l_ok, e_div, e_rem, e_len, s_tab, e]
def shX (f : FN) (s : Nat) (b n : Int32) : FN := row (row (row f (95 + 2 * s) (upd (f (95 + 2 * s)) 0 b)) (95 + 2 * s) (upd (upd (f (95 + 2 * s)) 0 b) 1 n)) (96 + 2 * s) (fil 40 0 (f (96 + 2 * s)))
theorem X2_begin (f : FN) {s : Nat} (h : s < 4) (b n : Int32) : D_X2_begin [.ref (95 + 2 * s), .int b, .int n] (memOf f) = some (.null, memOf (shX f s b (if b = 0 then 0 else n))) := by
  have F := fun g : FN => J7_fill g (sh_she h).2 (by omega) 0
  by_cases c : b = 0
  · simp [D_X2_begin, S_X2_begin, m_den, l0, Value.category, s_seq, s_if, s_st, s_ret, s_retz, s_retv, s_skip, s_sc, s_inc, s_call, e_c, e_li, e_lr, e_lj, e_un, e_bin, e_if, e_b, b_not, b_and, b_or, b_of, e_call, a_recv, a_snoc, a_nil, prI, prJ, prR, e_gi, e_gr, e_ai, e_ar, s_as, s_aop, s_pf, s_pfz, s_fop, l_set, l_ok, e_div, e_rem, e_len, s_tab, c, psh0 _ h, psh1 _ h, gsh2 _ h, F, shX, row_self, row_ne]
  · simp [D_X2_begin, S_X2_begin, m_den, l0, Value.category, s_seq, s_if, s_st, s_ret, s_retz, s_retv, s_skip, s_sc, s_inc, s_call, e_c, e_li, e_lr, e_lj, e_un, e_bin, e_if, e_b, b_not, b_and, b_or, b_of, e_call, a_recv, a_snoc, a_nil, prI, prJ, prR, e_gi, e_gr, e_ai, e_ar, s_as, s_aop, s_pf, s_pfz, s_fop, l_set, l_ok, e_div, e_rem, e_len, s_tab, c, psh0 _ h, psh1 _ h, gsh2 _ h, F, shX, row_self, row_ne]
