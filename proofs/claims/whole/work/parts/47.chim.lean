/-! chimneys: kinds, what they burn, worth, soot -/
theorem rd_nI (f : FN) {i n k : Nat} (h : shp[i]? = some (ia n)) (hn : n < 2 ^ 31) (hk : k < n) : gm_rd (memOf f) i (nI k) = some (f i k) := by
  have e : (nI k).toNatClampNeg = k := nI_clamp (by omega)
  rw [rd_ia f h (nI_pos' (by omega)) (by rw [e]; exact hk), e]
theorem wr_nI (f : FN) {i n k : Nat} (h : shp[i]? = some (ia n)) (hn : n < 2 ^ 31) (hk : k < n) (x : Int32) : gm_wr (memOf f) i (nI k) x = some (memOf (row f i (upd (f i) k x))) := by
  have e : (nI k).toNatClampNeg = k := nI_clamp (by omega)
  rw [wr_ia f h (nI_pos' (by omega)) (by rw [e]; exact hk), e]
theorem gch0 (f : FN) {i : Nat} (h : isCh i) : gm_fld (memOf f) i 0 0 = some (.ref (i + 1)) := fld_r f h.1 rfl
theorem gch1 (f : FN) {i : Nat} (h : isCh i) : gm_fld (memOf f) i 0 1 = some (.ref (i + 2)) := fld_r f h.1 rfl
theorem gch2 (f : FN) {i : Nat} (h : isCh i) : gm_fld (memOf f) i 0 2 = some (.ref (i + 3)) := fld_r f h.1 rfl
theorem gch3 (f : FN) {i : Nat} (h : isCh i) : gm_fld (memOf f) i 0 3 = some (.int (f i 3)) := fld_i f h.1 rfl
theorem gch4 (f : FN) {i : Nat} (h : isCh i) : gm_fld (memOf f) i 0 4 = some (.int (f i 4)) := fld_i f h.1 rfl
theorem gch5 (f : FN) {i : Nat} (h : isCh i) : gm_fld (memOf f) i 0 5 = some (.int (f i 5)) := fld_i f h.1 rfl
theorem pch3 (f : FN) {i : Nat} (h : isCh i) (x : Int32) : gm_pf (memOf f) i 0 3 (.int x) = some (memOf (row f i (upd (f i) 3 x))) := pf_i f h.1 rfl
theorem pch4 (f : FN) {i : Nat} (h : isCh i) (x : Int32) : gm_pf (memOf f) i 0 4 (.int x) = some (memOf (row f i (upd (f i) 4 x))) := pf_i f h.1 rfl
theorem pch5 (f : FN) {i : Nat} (h : isCh i) (x : Int32) : gm_pf (memOf f) i 0 5 (.int x) = some (memOf (row f i (upd (f i) 5 x))) := pf_i f h.1 rfl
theorem rcch (f : FN) {i : Nat} (h : isCh i) (vs : List Value) : recvOK 0 (.ref i :: vs) (memOf f) = true := recv_ok f h.1
theorem rdt (f : FN) {i j : Nat} (h : isCh i) (hj : j < 7) : gm_rd (memOf f) (i + 1) (nI j) = some (f (i + 1) j) := rd_nI f h.2.1 (by omega) hj
theorem wrt (f : FN) {i j : Nat} (h : isCh i) (hj : j < 7) (x : Int32) : gm_wr (memOf f) (i + 1) (nI j) x = some (memOf (row f (i + 1) (upd (f (i + 1)) j x))) := wr_nI f h.2.1 (by omega) hj x
theorem rda (f : FN) {i j : Nat} (h : isCh i) (hj : j < 36) : gm_rd (memOf f) (i + 2) (nI j) = some (f (i + 2) j) := rd_nI f h.2.2.1 (by omega) hj
theorem wra (f : FN) {i j : Nat} (h : isCh i) (hj : j < 36) (x : Int32) : gm_wr (memOf f) (i + 2) (nI j) x = some (memOf (row f (i + 2) (upd (f (i + 2)) j x))) := wr_nI f h.2.2.1 (by omega) hj x
theorem rds (f : FN) {i j : Nat} (h : isCh i) (hj : j < 36) : gm_rd (memOf f) (i + 3) (nI j) = some (f (i + 3) j) := rd_nI f h.2.2.2 (by omega) hj
theorem wrs (f : FN) {i j : Nat} (h : isCh i) (hj : j < 36) (x : Int32) : gm_wr (memOf f) (i + 3) (nI j) x = some (memOf (row f (i + 3) (upd (f (i + 3)) j x))) := wr_nI f h.2.2.2 (by omega) hj x
theorem rdt0 (f : FN) {i : Nat} (h : isCh i) : gm_rd (memOf f) (i + 1) 0 = some (f (i + 1) 0) := rdt f h (j := 0) (by omega)
theorem rdt1 (f : FN) {i : Nat} (h : isCh i) : gm_rd (memOf f) (i + 1) 1 = some (f (i + 1) 1) := rdt f h (j := 1) (by omega)
theorem rdt2 (f : FN) {i : Nat} (h : isCh i) : gm_rd (memOf f) (i + 1) 2 = some (f (i + 1) 2) := rdt f h (j := 2) (by omega)
theorem rdt3 (f : FN) {i : Nat} (h : isCh i) : gm_rd (memOf f) (i + 1) 3 = some (f (i + 1) 3) := rdt f h (j := 3) (by omega)
theorem rdt4 (f : FN) {i : Nat} (h : isCh i) : gm_rd (memOf f) (i + 1) 4 = some (f (i + 1) 4) := rdt f h (j := 4) (by omega)
theorem rdt5 (f : FN) {i : Nat} (h : isCh i) : gm_rd (memOf f) (i + 1) 5 = some (f (i + 1) 5) := rdt f h (j := 5) (by omega)
theorem rdt6 (f : FN) {i : Nat} (h : isCh i) : gm_rd (memOf f) (i + 1) 6 = some (f (i + 1) 6) := rdt f h (j := 6) (by omega)
theorem rd_st (M : GM) {j i : Nat} {q : String × List Int32} {v : Int32} (hq : st_tab[j]? = some q) (hv : q.2[i]? = some v) (hi : i < 2 ^ 31) : gm_rd M (SPB + j) (nI i) = some v := by
  have e : (nI i).toNatClampNeg = i := nI_clamp hi
  unfold gm_rd
  rw [if_pos (nI_pos' hi), if_neg (by omega), show SPB + j - SPB = j by omega, hq]
  simp [e, hv]
def worthN (kd : Nat) : Int32 := match kd with
  | 0 => 0
  | 1 => 2
  | 2 => -3
  | 3 => -1
  | 4 => 3
  | 5 => -6
  | _ => -1
def sootN (kd : Nat) : Int32 := match kd with
  | 5 => 50
  | 6 => 60
  | _ => 30
def sootyN (kd hi : Nat) : Int32 := pos0 (sootN kd - 3 * nI hi)
def burnN (kd fire clock : Nat) : Int32 := match kd with
  | 3 => 2 * nI fire
  | 4 => if clock < 12 then nI fire else 0
  | 6 => 2 * nI fire + 5
  | _ => nI fire
def litN (first long clock : Nat) : Bool := decide ((clock + 24 - first) % 24 < long)
theorem X0_worth (f : FN) {i kd : Nat} (h : isCh i) (hk : kd < 7) (e : f (i + 1) 0 = nI kd) : D_X0_worth [.ref i] (memOf f) = some (.int (worthN kd), memOf f) := by
  have r : gm_rd (memOf f) (SPB + 2) (nI kd) = some (worthN kd) := by
    match kd, hk with
    | 0, _ => exact rd_st _ rfl rfl (by omega)
    | 1, _ => exact rd_st _ rfl rfl (by omega)
    | 2, _ => exact rd_st _ rfl rfl (by omega)
    | 3, _ => exact rd_st _ rfl rfl (by omega)
    | 4, _ => exact rd_st _ rfl rfl (by omega)
    | 5, _ => exact rd_st _ rfl rfl (by omega)
    | 6, _ => exact rd_st _ rfl rfl (by omega)
    | k + 7, hk => exact absurd hk (by omega)
  simp [D_X0_worth, S_X0_worth, m_den, l0, Value.category, s_seq, s_if, s_st, s_ret, s_retz, s_retv, s_skip, s_sc, s_inc, s_call, e_c, e_li, e_lr, e_lj, e_un, e_bin, e_if, e_b, b_not, b_and, b_or, b_of, e_call, a_recv, a_snoc, a_nil, prI, prJ, prR, e_gi, e_gr, e_ai, e_ar, s_as, s_aop, s_pf, s_pfz, s_fop, l_set, l_ok, e_div, e_rem, e_len, s_tab, gch0 f h, rdt0 f h, e, r]
theorem X0_sooty (f : FN) {i kd hi : Nat} (h : isCh i) (hk : kd < 7) (e : f (i + 1) 0 = nI kd) (e3 : f (i + 1) 3 = nI hi) : D_X0_sooty [.ref i] (memOf f) = some (.int (sootyN kd hi), memOf f) := by
  have r : gm_rd (memOf f) (SPB + 3) (nI kd) = some (sootN kd) := by
    match kd, hk with
    | 0, _ => exact rd_st _ rfl rfl (by omega)
    | 1, _ => exact rd_st _ rfl rfl (by omega)
    | 2, _ => exact rd_st _ rfl rfl (by omega)
    | 3, _ => exact rd_st _ rfl rfl (by omega)
    | 4, _ => exact rd_st _ rfl rfl (by omega)
    | 5, _ => exact rd_st _ rfl rfl (by omega)
    | 6, _ => exact rd_st _ rfl rfl (by omega)
    | k + 7, hk => exact absurd hk (by omega)
  simp [D_X0_sooty, S_X0_sooty, m_den, l0, Value.category, s_seq, s_if, s_st, s_ret, s_retz, s_retv, s_skip, s_sc, s_inc, s_call, e_c, e_li, e_lr, e_lj, e_un, e_bin, e_if, e_b, b_not, b_and, b_or, b_of, e_call, a_recv, a_snoc, a_nil, prI, prJ, prR, e_gi, e_gr, e_ai, e_ar, s_as, s_aop, s_pf, s_pfz, s_fop, l_set, l_ok, e_div, e_rem, e_len, s_tab, gch0 f h, rdt0 f h, rdt3 f h, e, e3, r, J9_max, sootyN, pos0]
theorem X0_burnsAt (f : FN) {i kd fi cl : Nat} (h : isCh i) (hk : kd < 7) (hc : cl < 24) (e : f (i + 1) 0 = nI kd) (e4 : f (i + 1) 4 = nI fi) : D_X0_burnsAt [.ref i, .int (nI cl)] (memOf f) = some (.int (burnN kd fi cl), memOf f) := by
  have hcl : (nI cl < 12) = (cl < 12) := propext (nI_lt_iff (a := cl) (b := 12) (by omega) (by omega))
  match kd, hk with
  | 0, _ => rw [show nI 0 = 0 from rfl] at e; simp [D_X0_burnsAt, S_X0_burnsAt, m_den, l0, Value.category, s_seq, s_if, s_st, s_ret, s_retz, s_retv, s_skip, s_sc, s_inc, s_call, e_c, e_li, e_lr, e_lj, e_un, e_bin, e_if, e_b, b_not, b_and, b_or, b_of, e_call, a_recv, a_snoc, a_nil, prI, prJ, prR, e_gi, e_gr, e_ai, e_ar, s_as, s_aop, s_pf, s_pfz, s_fop, l_set, l_ok, e_div, e_rem, e_len, s_tab, gch0 f h, rdt0 f h, rdt4 f h, e, e4, burnN]
  | 1, _ => rw [show nI 1 = 1 from rfl] at e; simp [D_X0_burnsAt, S_X0_burnsAt, m_den, l0, Value.category, s_seq, s_if, s_st, s_ret, s_retz, s_retv, s_skip, s_sc, s_inc, s_call, e_c, e_li, e_lr, e_lj, e_un, e_bin, e_if, e_b, b_not, b_and, b_or, b_of, e_call, a_recv, a_snoc, a_nil, prI, prJ, prR, e_gi, e_gr, e_ai, e_ar, s_as, s_aop, s_pf, s_pfz, s_fop, l_set, l_ok, e_div, e_rem, e_len, s_tab, gch0 f h, rdt0 f h, rdt4 f h, e, e4, burnN]
  | 2, _ => rw [show nI 2 = 2 from rfl] at e; simp [D_X0_burnsAt, S_X0_burnsAt, m_den, l0, Value.category, s_seq, s_if, s_st, s_ret, s_retz, s_retv, s_skip, s_sc, s_inc, s_call, e_c, e_li, e_lr, e_lj, e_un, e_bin, e_if, e_b, b_not, b_and, b_or, b_of, e_call, a_recv, a_snoc, a_nil, prI, prJ, prR, e_gi, e_gr, e_ai, e_ar, s_as, s_aop, s_pf, s_pfz, s_fop, l_set, l_ok, e_div, e_rem, e_len, s_tab, gch0 f h, rdt0 f h, rdt4 f h, e, e4, burnN]
  | 3, _ => rw [show nI 3 = 3 from rfl] at e; simp [D_X0_burnsAt, S_X0_burnsAt, m_den, l0, Value.category, s_seq, s_if, s_st, s_ret, s_retz, s_retv, s_skip, s_sc, s_inc, s_call, e_c, e_li, e_lr, e_lj, e_un, e_bin, e_if, e_b, b_not, b_and, b_or, b_of, e_call, a_recv, a_snoc, a_nil, prI, prJ, prR, e_gi, e_gr, e_ai, e_ar, s_as, s_aop, s_pf, s_pfz, s_fop, l_set, l_ok, e_div, e_rem, e_len, s_tab, gch0 f h, rdt0 f h, rdt4 f h, e, e4, burnN]
  | 4, _ =>
    rw [show nI 4 = 4 from rfl] at e
    by_cases c : cl < 12
    · simp [D_X0_burnsAt, S_X0_burnsAt, m_den, l0, Value.category, s_seq, s_if, s_st, s_ret, s_retz, s_retv, s_skip, s_sc, s_inc, s_call, e_c, e_li, e_lr, e_lj, e_un, e_bin, e_if, e_b, b_not, b_and, b_or, b_of, e_call, a_recv, a_snoc, a_nil, prI, prJ, prR, e_gi, e_gr, e_ai, e_ar, s_as, s_aop, s_pf, s_pfz, s_fop, l_set, l_ok, e_div, e_rem, e_len, s_tab, gch0 f h, rdt0 f h, rdt4 f h, e, e4, burnN, hcl, c]
    · simp [D_X0_burnsAt, S_X0_burnsAt, m_den, l0, Value.category, s_seq, s_if, s_st, s_ret, s_retz, s_retv, s_skip, s_sc, s_inc, s_call, e_c, e_li, e_lr, e_lj, e_un, e_bin, e_if, e_b, b_not, b_and, b_or, b_of, e_call, a_recv, a_snoc, a_nil, prI, prJ, prR, e_gi, e_gr, e_ai, e_ar, s_as, s_aop, s_pf, s_pfz, s_fop, l_set, l_ok, e_div, e_rem, e_len, s_tab, gch0 f h, rdt0 f h, rdt4 f h, e, e4, burnN, hcl, c]
  | 5, _ => rw [show nI 5 = 5 from rfl] at e; simp [D_X0_burnsAt, S_X0_burnsAt, m_den, l0, Value.category, s_seq, s_if, s_st, s_ret, s_retz, s_retv, s_skip, s_sc, s_inc, s_call, e_c, e_li, e_lr, e_lj, e_un, e_bin, e_if, e_b, b_not, b_and, b_or, b_of, e_call, a_recv, a_snoc, a_nil, prI, prJ, prR, e_gi, e_gr, e_ai, e_ar, s_as, s_aop, s_pf, s_pfz, s_fop, l_set, l_ok, e_div, e_rem, e_len, s_tab, gch0 f h, rdt0 f h, rdt4 f h, e, e4, burnN]
  | 6, _ => rw [show nI 6 = 6 from rfl] at e; simp [D_X0_burnsAt, S_X0_burnsAt, m_den, l0, Value.category, s_seq, s_if, s_st, s_ret, s_retz, s_retv, s_skip, s_sc, s_inc, s_call, e_c, e_li, e_lr, e_lj, e_un, e_bin, e_if, e_b, b_not, b_and, b_or, b_of, e_call, a_recv, a_snoc, a_nil, prI, prJ, prR, e_gi, e_gr, e_ai, e_ar, s_as, s_aop, s_pf, s_pfz, s_fop, l_set, l_ok, e_div, e_rem, e_len, s_tab, gch0 f h, rdt0 f h, rdt4 f h, e, e4, burnN]
  | k + 7, hk => exact absurd hk (by omega)
/-! the reference -/
theorem X7_at (k w : Nat) (M : GM) : D_X7_at [.int (nI k), .int (nI w)] M = some (.int (nI (63 + 7 * k + w)), M) := by
  have e : (63 : Int32) + 7 * nI k + nI w = nI (63 + 7 * k + w) := by rw [show (63 : Int32) = nI 63 from rfl, show (7 : Int32) = nI 7 from rfl, nI_m, nI_a, nI_a]
  simp [D_X7_at, S_X7_at, m_den, l0, Value.category, s_seq, s_if, s_st, s_ret, s_retz, s_retv, s_skip, s_sc, s_inc, s_call, e_c, e_li, e_lr, e_lj, e_un, e_bin, e_if, e_b, b_not, b_and, b_or, b_of, e_call, a_recv, a_snoc, a_nil, prI, prJ, prR, e_gi, e_gr, e_ai, e_ar, s_as, s_aop, s_pf, s_pfz, s_fop, l_set, l_ok, e_div, e_rem, e_len, s_tab, e]
theorem X7_its (f : FN) {k w : Nat} (hk : k < 8) (hw : w < 7) : D_X7_its [.ref 103, .int (nI k), .int (nI w)] (memOf f) = some (.int (f 104 (63 + 7 * k + w)), memOf f) := by
  simp [D_X7_its, S_X7_its, m_den, l0, Value.category, s_seq, s_if, s_st, s_ret, s_retz, s_retv, s_skip, s_sc, s_inc, s_call, e_c, e_li, e_lr, e_lj, e_un, e_bin, e_if, e_b, b_not, b_and, b_or, b_of, e_call, a_recv, a_snoc, a_nil, prI, prJ, prR, e_gi, e_gr, e_ai, e_ar, s_as, s_aop, s_pf, s_pfz, s_fop, l_set, l_ok, e_div, e_rem, e_len, s_tab, X7_at, g_103_0, rd_104 f (show 63 + 7 * k + w < 735 by omega)]
theorem X7_its0 (f : FN) {k : Nat} (hk : k < 8) : D_X7_its [.ref 103, .int (nI k), .int 0] (memOf f) = some (.int (f 104 (63 + 7 * k)), memOf f) := X7_its f hk (w := 0) (by omega)
theorem X7_its1 (f : FN) {k : Nat} (hk : k < 8) : D_X7_its [.ref 103, .int (nI k), .int 1] (memOf f) = some (.int (f 104 (63 + 7 * k + 1)), memOf f) := X7_its f hk (w := 1) (by omega)
theorem X7_its2 (f : FN) {k : Nat} (hk : k < 8) : D_X7_its [.ref 103, .int (nI k), .int 2] (memOf f) = some (.int (f 104 (63 + 7 * k + 2)), memOf f) := X7_its f hk (w := 2) (by omega)
theorem X7_its3 (f : FN) {k : Nat} (hk : k < 8) : D_X7_its [.ref 103, .int (nI k), .int 3] (memOf f) = some (.int (f 104 (63 + 7 * k + 3)), memOf f) := X7_its f hk (w := 3) (by omega)
theorem X7_its4 (f : FN) {k : Nat} (hk : k < 8) : D_X7_its [.ref 103, .int (nI k), .int 4] (memOf f) = some (.int (f 104 (63 + 7 * k + 4)), memOf f) := X7_its f hk (w := 4) (by omega)
theorem X7_its5 (f : FN) {k : Nat} (hk : k < 8) : D_X7_its [.ref 103, .int (nI k), .int 5] (memOf f) = some (.int (f 104 (63 + 7 * k + 5)), memOf f) := X7_its f hk (w := 5) (by omega)
theorem X7_its6 (f : FN) {k : Nat} (hk : k < 8) : D_X7_its [.ref 103, .int (nI k), .int 6] (memOf f) = some (.int (f 104 (63 + 7 * k + 6)), memOf f) := X7_its f hk (w := 6) (by omega)
theorem X7_worth (f : FN) {k kd : Nat} (h8 : k < 8) (hk : kd < 7) (e : f 104 (63 + 7 * k) = nI kd) : D_X7_worth [.ref 103, .int (nI k)] (memOf f) = some (.int (worthN kd), memOf f) := by
  match kd, hk with
  | 0, _ => rw [show nI 0 = 0 from rfl] at e; simp [D_X7_worth, S_X7_worth, m_den, l0, Value.category, s_seq, s_if, s_st, s_ret, s_retz, s_retv, s_skip, s_sc, s_inc, s_call, e_c, e_li, e_lr, e_lj, e_un, e_bin, e_if, e_b, b_not, b_and, b_or, b_of, e_call, a_recv, a_snoc, a_nil, prI, prJ, prR, e_gi, e_gr, e_ai, e_ar, s_as, s_aop, s_pf, s_pfz, s_fop, l_set, l_ok, e_div, e_rem, e_len, s_tab, X7_its0 f h8, rc_103, e, worthN]
  | 1, _ => rw [show nI 1 = 1 from rfl] at e; simp [D_X7_worth, S_X7_worth, m_den, l0, Value.category, s_seq, s_if, s_st, s_ret, s_retz, s_retv, s_skip, s_sc, s_inc, s_call, e_c, e_li, e_lr, e_lj, e_un, e_bin, e_if, e_b, b_not, b_and, b_or, b_of, e_call, a_recv, a_snoc, a_nil, prI, prJ, prR, e_gi, e_gr, e_ai, e_ar, s_as, s_aop, s_pf, s_pfz, s_fop, l_set, l_ok, e_div, e_rem, e_len, s_tab, X7_its0 f h8, rc_103, e, worthN]
  | 2, _ => rw [show nI 2 = 2 from rfl] at e; simp [D_X7_worth, S_X7_worth, m_den, l0, Value.category, s_seq, s_if, s_st, s_ret, s_retz, s_retv, s_skip, s_sc, s_inc, s_call, e_c, e_li, e_lr, e_lj, e_un, e_bin, e_if, e_b, b_not, b_and, b_or, b_of, e_call, a_recv, a_snoc, a_nil, prI, prJ, prR, e_gi, e_gr, e_ai, e_ar, s_as, s_aop, s_pf, s_pfz, s_fop, l_set, l_ok, e_div, e_rem, e_len, s_tab, X7_its0 f h8, rc_103, e, worthN]
  | 3, _ => rw [show nI 3 = 3 from rfl] at e; simp [D_X7_worth, S_X7_worth, m_den, l0, Value.category, s_seq, s_if, s_st, s_ret, s_retz, s_retv, s_skip, s_sc, s_inc, s_call, e_c, e_li, e_lr, e_lj, e_un, e_bin, e_if, e_b, b_not, b_and, b_or, b_of, e_call, a_recv, a_snoc, a_nil, prI, prJ, prR, e_gi, e_gr, e_ai, e_ar, s_as, s_aop, s_pf, s_pfz, s_fop, l_set, l_ok, e_div, e_rem, e_len, s_tab, X7_its0 f h8, rc_103, e, worthN]
  | 4, _ => rw [show nI 4 = 4 from rfl] at e; simp [D_X7_worth, S_X7_worth, m_den, l0, Value.category, s_seq, s_if, s_st, s_ret, s_retz, s_retv, s_skip, s_sc, s_inc, s_call, e_c, e_li, e_lr, e_lj, e_un, e_bin, e_if, e_b, b_not, b_and, b_or, b_of, e_call, a_recv, a_snoc, a_nil, prI, prJ, prR, e_gi, e_gr, e_ai, e_ar, s_as, s_aop, s_pf, s_pfz, s_fop, l_set, l_ok, e_div, e_rem, e_len, s_tab, X7_its0 f h8, rc_103, e, worthN]
  | 5, _ => rw [show nI 5 = 5 from rfl] at e; simp [D_X7_worth, S_X7_worth, m_den, l0, Value.category, s_seq, s_if, s_st, s_ret, s_retz, s_retv, s_skip, s_sc, s_inc, s_call, e_c, e_li, e_lr, e_lj, e_un, e_bin, e_if, e_b, b_not, b_and, b_or, b_of, e_call, a_recv, a_snoc, a_nil, prI, prJ, prR, e_gi, e_gr, e_ai, e_ar, s_as, s_aop, s_pf, s_pfz, s_fop, l_set, l_ok, e_div, e_rem, e_len, s_tab, X7_its0 f h8, rc_103, e, worthN]
  | 6, _ => rw [show nI 6 = 6 from rfl] at e; simp [D_X7_worth, S_X7_worth, m_den, l0, Value.category, s_seq, s_if, s_st, s_ret, s_retz, s_retv, s_skip, s_sc, s_inc, s_call, e_c, e_li, e_lr, e_lj, e_un, e_bin, e_if, e_b, b_not, b_and, b_or, b_of, e_call, a_recv, a_snoc, a_nil, prI, prJ, prR, e_gi, e_gr, e_ai, e_ar, s_as, s_aop, s_pf, s_pfz, s_fop, l_set, l_ok, e_div, e_rem, e_len, s_tab, X7_its0 f h8, rc_103, e, worthN]
  | k + 7, hk => exact absurd hk (by omega)
theorem X7_sooty (f : FN) {k kd hi : Nat} (h8 : k < 8) (hk : kd < 7) (hh : hi < 10) (e : f 104 (63 + 7 * k) = nI kd) (e3 : f 104 (63 + 7 * k + 3) = nI hi) : D_X7_sooty [.ref 103, .int (nI k)] (memOf f) = some (.int (sootyN kd hi), memOf f) := by
  have c : ∀ (z : Int32), (if z < 0 then 0 else z) = pos0 z := fun z => by
    unfold pos0
    by_cases q : z < 0
    · rw [if_pos q, if_neg (Int32.not_le.mpr q)]
    · rw [if_neg q, if_pos (Int32.not_lt.mp q)]
  have key : ∀ s : Int32, sootN kd = s → ∀ b : Bool, b = decide (s - 3 * nI hi < 0) → (if b then (0 : Int32) else s - 3 * nI hi) = sootyN kd hi := fun s hs b hb => by
    subst hb
    unfold sootyN
    rw [hs, ← c]
    simp
  match kd, hk with
  | 0, _ =>
    rw [show nI 0 = 0 from rfl] at e
    have kk := key 30 rfl _ rfl
    by_cases q : (30 : Int32) - 3 * nI hi < 0
    · simp [q] at kk
      simp [D_X7_sooty, S_X7_sooty, m_den, l0, Value.category, s_seq, s_if, s_st, s_ret, s_retz, s_retv, s_skip, s_sc, s_inc, s_call, e_c, e_li, e_lr, e_lj, e_un, e_bin, e_if, e_b, b_not, b_and, b_or, b_of, e_call, a_recv, a_snoc, a_nil, prI, prJ, prR, e_gi, e_gr, e_ai, e_ar, s_as, s_aop, s_pf, s_pfz, s_fop, l_set, l_ok, e_div, e_rem, e_len, s_tab, X7_its0 f h8, X7_its3 f h8, rc_103, e, e3, q]
      first | exact kk | exact kk.symm
    · simp [q] at kk
      simp [D_X7_sooty, S_X7_sooty, m_den, l0, Value.category, s_seq, s_if, s_st, s_ret, s_retz, s_retv, s_skip, s_sc, s_inc, s_call, e_c, e_li, e_lr, e_lj, e_un, e_bin, e_if, e_b, b_not, b_and, b_or, b_of, e_call, a_recv, a_snoc, a_nil, prI, prJ, prR, e_gi, e_gr, e_ai, e_ar, s_as, s_aop, s_pf, s_pfz, s_fop, l_set, l_ok, e_div, e_rem, e_len, s_tab, X7_its0 f h8, X7_its3 f h8, rc_103, e, e3, q]
      first | exact kk | exact kk.symm
  | 1, _ =>
    rw [show nI 1 = 1 from rfl] at e
    have kk := key 30 rfl _ rfl
    by_cases q : (30 : Int32) - 3 * nI hi < 0
    · simp [q] at kk
      simp [D_X7_sooty, S_X7_sooty, m_den, l0, Value.category, s_seq, s_if, s_st, s_ret, s_retz, s_retv, s_skip, s_sc, s_inc, s_call, e_c, e_li, e_lr, e_lj, e_un, e_bin, e_if, e_b, b_not, b_and, b_or, b_of, e_call, a_recv, a_snoc, a_nil, prI, prJ, prR, e_gi, e_gr, e_ai, e_ar, s_as, s_aop, s_pf, s_pfz, s_fop, l_set, l_ok, e_div, e_rem, e_len, s_tab, X7_its0 f h8, X7_its3 f h8, rc_103, e, e3, q]
      first | exact kk | exact kk.symm
    · simp [q] at kk
      simp [D_X7_sooty, S_X7_sooty, m_den, l0, Value.category, s_seq, s_if, s_st, s_ret, s_retz, s_retv, s_skip, s_sc, s_inc, s_call, e_c, e_li, e_lr, e_lj, e_un, e_bin, e_if, e_b, b_not, b_and, b_or, b_of, e_call, a_recv, a_snoc, a_nil, prI, prJ, prR, e_gi, e_gr, e_ai, e_ar, s_as, s_aop, s_pf, s_pfz, s_fop, l_set, l_ok, e_div, e_rem, e_len, s_tab, X7_its0 f h8, X7_its3 f h8, rc_103, e, e3, q]
      first | exact kk | exact kk.symm
  | 2, _ =>
    rw [show nI 2 = 2 from rfl] at e
    have kk := key 30 rfl _ rfl
    by_cases q : (30 : Int32) - 3 * nI hi < 0
    · simp [q] at kk
      simp [D_X7_sooty, S_X7_sooty, m_den, l0, Value.category, s_seq, s_if, s_st, s_ret, s_retz, s_retv, s_skip, s_sc, s_inc, s_call, e_c, e_li, e_lr, e_lj, e_un, e_bin, e_if, e_b, b_not, b_and, b_or, b_of, e_call, a_recv, a_snoc, a_nil, prI, prJ, prR, e_gi, e_gr, e_ai, e_ar, s_as, s_aop, s_pf, s_pfz, s_fop, l_set, l_ok, e_div, e_rem, e_len, s_tab, X7_its0 f h8, X7_its3 f h8, rc_103, e, e3, q]
      first | exact kk | exact kk.symm
    · simp [q] at kk
      simp [D_X7_sooty, S_X7_sooty, m_den, l0, Value.category, s_seq, s_if, s_st, s_ret, s_retz, s_retv, s_skip, s_sc, s_inc, s_call, e_c, e_li, e_lr, e_lj, e_un, e_bin, e_if, e_b, b_not, b_and, b_or, b_of, e_call, a_recv, a_snoc, a_nil, prI, prJ, prR, e_gi, e_gr, e_ai, e_ar, s_as, s_aop, s_pf, s_pfz, s_fop, l_set, l_ok, e_div, e_rem, e_len, s_tab, X7_its0 f h8, X7_its3 f h8, rc_103, e, e3, q]
      first | exact kk | exact kk.symm
  | 3, _ =>
    rw [show nI 3 = 3 from rfl] at e
    have kk := key 30 rfl _ rfl
    by_cases q : (30 : Int32) - 3 * nI hi < 0
    · simp [q] at kk
      simp [D_X7_sooty, S_X7_sooty, m_den, l0, Value.category, s_seq, s_if, s_st, s_ret, s_retz, s_retv, s_skip, s_sc, s_inc, s_call, e_c, e_li, e_lr, e_lj, e_un, e_bin, e_if, e_b, b_not, b_and, b_or, b_of, e_call, a_recv, a_snoc, a_nil, prI, prJ, prR, e_gi, e_gr, e_ai, e_ar, s_as, s_aop, s_pf, s_pfz, s_fop, l_set, l_ok, e_div, e_rem, e_len, s_tab, X7_its0 f h8, X7_its3 f h8, rc_103, e, e3, q]
      first | exact kk | exact kk.symm
    · simp [q] at kk
      simp [D_X7_sooty, S_X7_sooty, m_den, l0, Value.category, s_seq, s_if, s_st, s_ret, s_retz, s_retv, s_skip, s_sc, s_inc, s_call, e_c, e_li, e_lr, e_lj, e_un, e_bin, e_if, e_b, b_not, b_and, b_or, b_of, e_call, a_recv, a_snoc, a_nil, prI, prJ, prR, e_gi, e_gr, e_ai, e_ar, s_as, s_aop, s_pf, s_pfz, s_fop, l_set, l_ok, e_div, e_rem, e_len, s_tab, X7_its0 f h8, X7_its3 f h8, rc_103, e, e3, q]
      first | exact kk | exact kk.symm
  | 4, _ =>
    rw [show nI 4 = 4 from rfl] at e
    have kk := key 30 rfl _ rfl
    by_cases q : (30 : Int32) - 3 * nI hi < 0
    · simp [q] at kk
      simp [D_X7_sooty, S_X7_sooty, m_den, l0, Value.category, s_seq, s_if, s_st, s_ret, s_retz, s_retv, s_skip, s_sc, s_inc, s_call, e_c, e_li, e_lr, e_lj, e_un, e_bin, e_if, e_b, b_not, b_and, b_or, b_of, e_call, a_recv, a_snoc, a_nil, prI, prJ, prR, e_gi, e_gr, e_ai, e_ar, s_as, s_aop, s_pf, s_pfz, s_fop, l_set, l_ok, e_div, e_rem, e_len, s_tab, X7_its0 f h8, X7_its3 f h8, rc_103, e, e3, q]
      first | exact kk | exact kk.symm
    · simp [q] at kk
      simp [D_X7_sooty, S_X7_sooty, m_den, l0, Value.category, s_seq, s_if, s_st, s_ret, s_retz, s_retv, s_skip, s_sc, s_inc, s_call, e_c, e_li, e_lr, e_lj, e_un, e_bin, e_if, e_b, b_not, b_and, b_or, b_of, e_call, a_recv, a_snoc, a_nil, prI, prJ, prR, e_gi, e_gr, e_ai, e_ar, s_as, s_aop, s_pf, s_pfz, s_fop, l_set, l_ok, e_div, e_rem, e_len, s_tab, X7_its0 f h8, X7_its3 f h8, rc_103, e, e3, q]
      first | exact kk | exact kk.symm
  | 5, _ =>
    rw [show nI 5 = 5 from rfl] at e
    have kk := key 50 rfl _ rfl
    by_cases q : (50 : Int32) - 3 * nI hi < 0
    · simp [q] at kk
      simp [D_X7_sooty, S_X7_sooty, m_den, l0, Value.category, s_seq, s_if, s_st, s_ret, s_retz, s_retv, s_skip, s_sc, s_inc, s_call, e_c, e_li, e_lr, e_lj, e_un, e_bin, e_if, e_b, b_not, b_and, b_or, b_of, e_call, a_recv, a_snoc, a_nil, prI, prJ, prR, e_gi, e_gr, e_ai, e_ar, s_as, s_aop, s_pf, s_pfz, s_fop, l_set, l_ok, e_div, e_rem, e_len, s_tab, X7_its0 f h8, X7_its3 f h8, rc_103, e, e3, q]
      first | exact kk | exact kk.symm
    · simp [q] at kk
      simp [D_X7_sooty, S_X7_sooty, m_den, l0, Value.category, s_seq, s_if, s_st, s_ret, s_retz, s_retv, s_skip, s_sc, s_inc, s_call, e_c, e_li, e_lr, e_lj, e_un, e_bin, e_if, e_b, b_not, b_and, b_or, b_of, e_call, a_recv, a_snoc, a_nil, prI, prJ, prR, e_gi, e_gr, e_ai, e_ar, s_as, s_aop, s_pf, s_pfz, s_fop, l_set, l_ok, e_div, e_rem, e_len, s_tab, X7_its0 f h8, X7_its3 f h8, rc_103, e, e3, q]
      first | exact kk | exact kk.symm
  | 6, _ =>
    rw [show nI 6 = 6 from rfl] at e
    have kk := key 60 rfl _ rfl
    by_cases q : (60 : Int32) - 3 * nI hi < 0
    · simp [q] at kk
      simp [D_X7_sooty, S_X7_sooty, m_den, l0, Value.category, s_seq, s_if, s_st, s_ret, s_retz, s_retv, s_skip, s_sc, s_inc, s_call, e_c, e_li, e_lr, e_lj, e_un, e_bin, e_if, e_b, b_not, b_and, b_or, b_of, e_call, a_recv, a_snoc, a_nil, prI, prJ, prR, e_gi, e_gr, e_ai, e_ar, s_as, s_aop, s_pf, s_pfz, s_fop, l_set, l_ok, e_div, e_rem, e_len, s_tab, X7_its0 f h8, X7_its3 f h8, rc_103, e, e3, q]
      first | exact kk | exact kk.symm
    · simp [q] at kk
      simp [D_X7_sooty, S_X7_sooty, m_den, l0, Value.category, s_seq, s_if, s_st, s_ret, s_retz, s_retv, s_skip, s_sc, s_inc, s_call, e_c, e_li, e_lr, e_lj, e_un, e_bin, e_if, e_b, b_not, b_and, b_or, b_of, e_call, a_recv, a_snoc, a_nil, prI, prJ, prR, e_gi, e_gr, e_ai, e_ar, s_as, s_aop, s_pf, s_pfz, s_fop, l_set, l_ok, e_div, e_rem, e_len, s_tab, X7_its0 f h8, X7_its3 f h8, rc_103, e, e3, q]
      first | exact kk | exact kk.symm
  | k + 7, hk => exact absurd hk (by omega)
theorem X7_burnsAt (f : FN) {k kd fi cl : Nat} (h8 : k < 8) (hk : kd < 7) (hc : cl < 24) (e : f 104 (63 + 7 * k) = nI kd) (e4 : f 104 (63 + 7 * k + 4) = nI fi) : D_X7_burnsAt [.ref 103, .int (nI k), .int (nI cl)] (memOf f) = some (.int (burnN kd fi cl), memOf f) := by
  have hcl : (nI cl < 12) = (cl < 12) := propext (nI_lt_iff (a := cl) (b := 12) (by omega) (by omega))
  match kd, hk with
  | 0, _ => rw [show nI 0 = 0 from rfl] at e; simp [D_X7_burnsAt, S_X7_burnsAt, m_den, l0, Value.category, s_seq, s_if, s_st, s_ret, s_retz, s_retv, s_skip, s_sc, s_inc, s_call, e_c, e_li, e_lr, e_lj, e_un, e_bin, e_if, e_b, b_not, b_and, b_or, b_of, e_call, a_recv, a_snoc, a_nil, prI, prJ, prR, e_gi, e_gr, e_ai, e_ar, s_as, s_aop, s_pf, s_pfz, s_fop, l_set, l_ok, e_div, e_rem, e_len, s_tab, X7_its0 f h8, X7_its4 f h8, rc_103, e, e4, burnN]
  | 1, _ => rw [show nI 1 = 1 from rfl] at e; simp [D_X7_burnsAt, S_X7_burnsAt, m_den, l0, Value.category, s_seq, s_if, s_st, s_ret, s_retz, s_retv, s_skip, s_sc, s_inc, s_call, e_c, e_li, e_lr, e_lj, e_un, e_bin, e_if, e_b, b_not, b_and, b_or, b_of, e_call, a_recv, a_snoc, a_nil, prI, prJ, prR, e_gi, e_gr, e_ai, e_ar, s_as, s_aop, s_pf, s_pfz, s_fop, l_set, l_ok, e_div, e_rem, e_len, s_tab, X7_its0 f h8, X7_its4 f h8, rc_103, e, e4, burnN]
  | 2, _ => rw [show nI 2 = 2 from rfl] at e; simp [D_X7_burnsAt, S_X7_burnsAt, m_den, l0, Value.category, s_seq, s_if, s_st, s_ret, s_retz, s_retv, s_skip, s_sc, s_inc, s_call, e_c, e_li, e_lr, e_lj, e_un, e_bin, e_if, e_b, b_not, b_and, b_or, b_of, e_call, a_recv, a_snoc, a_nil, prI, prJ, prR, e_gi, e_gr, e_ai, e_ar, s_as, s_aop, s_pf, s_pfz, s_fop, l_set, l_ok, e_div, e_rem, e_len, s_tab, X7_its0 f h8, X7_its4 f h8, rc_103, e, e4, burnN]
  | 3, _ => rw [show nI 3 = 3 from rfl] at e; simp [D_X7_burnsAt, S_X7_burnsAt, m_den, l0, Value.category, s_seq, s_if, s_st, s_ret, s_retz, s_retv, s_skip, s_sc, s_inc, s_call, e_c, e_li, e_lr, e_lj, e_un, e_bin, e_if, e_b, b_not, b_and, b_or, b_of, e_call, a_recv, a_snoc, a_nil, prI, prJ, prR, e_gi, e_gr, e_ai, e_ar, s_as, s_aop, s_pf, s_pfz, s_fop, l_set, l_ok, e_div, e_rem, e_len, s_tab, X7_its0 f h8, X7_its4 f h8, rc_103, e, e4, burnN]
  | 4, _ =>
    rw [show nI 4 = 4 from rfl] at e
    by_cases c : cl < 12
    · simp [D_X7_burnsAt, S_X7_burnsAt, m_den, l0, Value.category, s_seq, s_if, s_st, s_ret, s_retz, s_retv, s_skip, s_sc, s_inc, s_call, e_c, e_li, e_lr, e_lj, e_un, e_bin, e_if, e_b, b_not, b_and, b_or, b_of, e_call, a_recv, a_snoc, a_nil, prI, prJ, prR, e_gi, e_gr, e_ai, e_ar, s_as, s_aop, s_pf, s_pfz, s_fop, l_set, l_ok, e_div, e_rem, e_len, s_tab, X7_its0 f h8, X7_its4 f h8, rc_103, e, e4, burnN, hcl, c]
    · simp [D_X7_burnsAt, S_X7_burnsAt, m_den, l0, Value.category, s_seq, s_if, s_st, s_ret, s_retz, s_retv, s_skip, s_sc, s_inc, s_call, e_c, e_li, e_lr, e_lj, e_un, e_bin, e_if, e_b, b_not, b_and, b_or, b_of, e_call, a_recv, a_snoc, a_nil, prI, prJ, prR, e_gi, e_gr, e_ai, e_ar, s_as, s_aop, s_pf, s_pfz, s_fop, l_set, l_ok, e_div, e_rem, e_len, s_tab, X7_its0 f h8, X7_its4 f h8, rc_103, e, e4, burnN, hcl, c]
  | 5, _ => rw [show nI 5 = 5 from rfl] at e; simp [D_X7_burnsAt, S_X7_burnsAt, m_den, l0, Value.category, s_seq, s_if, s_st, s_ret, s_retz, s_retv, s_skip, s_sc, s_inc, s_call, e_c, e_li, e_lr, e_lj, e_un, e_bin, e_if, e_b, b_not, b_and, b_or, b_of, e_call, a_recv, a_snoc, a_nil, prI, prJ, prR, e_gi, e_gr, e_ai, e_ar, s_as, s_aop, s_pf, s_pfz, s_fop, l_set, l_ok, e_div, e_rem, e_len, s_tab, X7_its0 f h8, X7_its4 f h8, rc_103, e, e4, burnN]
  | 6, _ => rw [show nI 6 = 6 from rfl] at e; simp [D_X7_burnsAt, S_X7_burnsAt, m_den, l0, Value.category, s_seq, s_if, s_st, s_ret, s_retz, s_retv, s_skip, s_sc, s_inc, s_call, e_c, e_li, e_lr, e_lj, e_un, e_bin, e_if, e_b, b_not, b_and, b_or, b_of, e_call, a_recv, a_snoc, a_nil, prI, prJ, prR, e_gi, e_gr, e_ai, e_ar, s_as, s_aop, s_pf, s_pfz, s_fop, l_set, l_ok, e_div, e_rem, e_len, s_tab, X7_its0 f h8, X7_its4 f h8, rc_103, e, e4, burnN]
  | k + 7, hk => exact absurd hk (by omega)
