/-! sheets: write -/
theorem gsh0 (f : FN) {s : Nat} (h : s < 4) : gm_fld (memOf f) (95 + 2 * s) 2 0 = some (.int (f (95 + 2 * s) 0)) := fld_i f (sh_she h).1 rfl
theorem gsh1 (f : FN) {s : Nat} (h : s < 4) : gm_fld (memOf f) (95 + 2 * s) 2 1 = some (.int (f (95 + 2 * s) 1)) := fld_i f (sh_she h).1 rfl
theorem gsh2 (f : FN) {s : Nat} (h : s < 4) : gm_fld (memOf f) (95 + 2 * s) 2 2 = some (.ref (96 + 2 * s)) := fld_r f (sh_she h).1 rfl
theorem psh0 (f : FN) {s : Nat} (h : s < 4) (x : Int32) : gm_pf (memOf f) (95 + 2 * s) 2 0 (.int x) = some (memOf (row f (95 + 2 * s) (upd (f (95 + 2 * s)) 0 x))) := pf_i f (sh_she h).1 rfl
theorem psh1 (f : FN) {s : Nat} (h : s < 4) (x : Int32) : gm_pf (memOf f) (95 + 2 * s) 2 1 (.int x) = some (memOf (row f (95 + 2 * s) (upd (f (95 + 2 * s)) 1 x))) := pf_i f (sh_she h).1 rfl
theorem rcsh (f : FN) {s : Nat} (h : s < 4) (vs : List Value) : recvOK 2 (.ref (95 + 2 * s) :: vs) (memOf f) = true := recv_ok f (sh_she h).1
theorem rdn (f : FN) {s j : Nat} (h : s < 4) (hj : j < 40) : gm_rd (memOf f) (96 + 2 * s) (nI j) = some (f (96 + 2 * s) j) := rd_nI f (sh_she h).2 (by omega) hj
theorem wrn (f : FN) {s j : Nat} (h : s < 4) (hj : j < 40) (x : Int32) : gm_wr (memOf f) (96 + 2 * s) (nI j) x = some (memOf (row f (96 + 2 * s) (upd (f (96 + 2 * s)) j x))) := wr_nI f (sh_she h).2 (by omega) hj x
def shOK (g : FN) (s : Nat) : Prop := (g (95 + 2 * s) 0 = g 112 s ∧ (g 112 s = 0 ∨ g 112 s = 8 ∨ g 112 s = 16 ∨ g 112 s = 32)) ∧ (∃ n, n ≤ 40 ∧ g (95 + 2 * s) 1 = nI n ∧ g 113 s = nI n ∧ (g 112 s = 0 → n = 0)) ∧ ∀ i, i < 40 → g (96 + 2 * s) i = g 114 (40 * s + i)
theorem REL.sh {f : FN} (h : REL f) {s : Nat} (hs : s < 4) : shOK f s := h.2.2.2.2.2.2 s hs
theorem REL.sheet {f g : FN} (h : REL f) {s : Nat} (hs : s < 4) (h0 : ∀ j, j ≠ 95 + 2 * s → j ≠ 96 + 2 * s → j ≠ 112 → j ≠ 113 → j ≠ 114 → g j = f j) (ho : ∀ t, t < 4 → t ≠ s → g 112 t = f 112 t ∧ g 113 t = f 113 t ∧ ∀ i, i < 40 → g 114 (40 * t + i) = f 114 (40 * t + i)) (hn : shOK g s) : REL g := by
  have e := h.2.2.2
  obtain ⟨s1, s2, s3, s4⟩ := id e
  refine h.side (fun j hj => h0 j (by omega) (by omega) (by omega) (by omega) (by omega)) (fun j h1 h2 => h0 j (by omega) (by omega) (by omega) (by omega) (by omega)) ⟨?_, ?_, ?_, fun t ht => ?_⟩
  · rw [h0 81 (by omega) (by omega) (by omega) (by omega) (by omega), h0 107 (by omega) (by omega) (by omega) (by omega) (by omega)]; exact s1
  · rw [h0 78 (by omega) (by omega) (by omega) (by omega) (by omega), h0 103 (by omega) (by omega) (by omega) (by omega) (by omega)]; exact s2
  · rw [h0 79 (by omega) (by omega) (by omega) (by omega) (by omega), h0 111 (by omega) (by omega) (by omega) (by omega) (by omega)]; exact s3
  · by_cases et : t = s
    · subst et; exact hn
    · obtain ⟨o1, o2, o3⟩ := ho t ht et
      obtain ⟨q1, q2, q3⟩ := s4 t ht
      rw [h0 (95 + 2 * t) (by omega) (by omega) (by omega) (by omega) (by omega), h0 (96 + 2 * t) (by omega) (by omega) (by omega) (by omega) (by omega), o1, o2]
      exact ⟨q1, q2, fun i hi => by rw [o3 i hi]; exact q3 i hi⟩
theorem X2_isMissing (f : FN) {s : Nat} (h : s < 4) : D_X2_isMissing [.ref (95 + 2 * s)] (memOf f) = some (.int (if f (95 + 2 * s) 0 = 0 then 1 else 0), memOf f) := by
  by_cases c : f (95 + 2 * s) 0 = 0 <;> simp [D_X2_isMissing, S_X2_isMissing, m_den, l0, Value.category, s_seq, s_if, s_st, s_ret, s_retz, s_retv, s_skip, s_sc, s_inc, s_call, e_c, e_li, e_lr, e_lj, e_un, e_bin, e_if, e_b, b_not, b_and, b_or, b_of, e_call, a_recv, a_snoc, a_nil, prI, prJ, prR, e_gi, e_gr, e_ai, e_ar, s_as, s_aop, s_pf, s_pfz, s_fop, l_set, l_ok, e_div, e_rem, e_len, s_tab, gsh0 f h, c]
def narN (b v : Int32) : Int32 := if b = 8 then v.toInt8.toInt32 else if b = 16 then v.toInt16.toInt32 else v
theorem X7_narrowed (M : GM) (b v : Int32) : D_X7_narrowed [.int b, .int v] M = some (.int (narN b v), M) := by
  by_cases c : b = 8
  · simp [D_X7_narrowed, S_X7_narrowed, m_den, l0, Value.category, s_seq, s_if, s_st, s_ret, s_retz, s_retv, s_skip, s_sc, s_inc, s_call, e_c, e_li, e_lr, e_lj, e_un, e_bin, e_if, e_b, b_not, b_and, b_or, b_of, e_call, a_recv, a_snoc, a_nil, prI, prJ, prR, e_gi, e_gr, e_ai, e_ar, s_as, s_aop, s_pf, s_pfz, s_fop, l_set, l_ok, e_div, e_rem, e_len, s_tab, narN, c]
  · by_cases d : b = 16 <;> simp [D_X7_narrowed, S_X7_narrowed, m_den, l0, Value.category, s_seq, s_if, s_st, s_ret, s_retz, s_retv, s_skip, s_sc, s_inc, s_call, e_c, e_li, e_lr, e_lj, e_un, e_bin, e_if, e_b, b_not, b_and, b_or, b_of, e_call, a_recv, a_snoc, a_nil, prI, prJ, prR, e_gi, e_gr, e_ai, e_ar, s_as, s_aop, s_pf, s_pfz, s_fop, l_set, l_ok, e_div, e_rem, e_len, s_tab, narN, c, d]
theorem X2_put (f : FN) {s j : Nat} (h : s < 4) (hj : j < 40) (v : Int32) : D_X2_put [.ref (95 + 2 * s), .int (nI j), .int v] (memOf f) = some (.null, memOf (row f (96 + 2 * s) (upd (f (96 + 2 * s)) j (narN (f (95 + 2 * s) 0) v)))) := by
  by_cases c : f (95 + 2 * s) 0 = 8
  · simp [D_X2_put, S_X2_put, m_den, l0, Value.category, s_seq, s_if, s_st, s_ret, s_retz, s_retv, s_skip, s_sc, s_inc, s_call, e_c, e_li, e_lr, e_lj, e_un, e_bin, e_if, e_b, b_not, b_and, b_or, b_of, e_call, a_recv, a_snoc, a_nil, prI, prJ, prR, e_gi, e_gr, e_ai, e_ar, s_as, s_aop, s_pf, s_pfz, s_fop, l_set, l_ok, e_div, e_rem, e_len, s_tab, narN, c, gsh0 f h, gsh2 f h, wrn f h hj]
  · by_cases d : f (95 + 2 * s) 0 = 16 <;> simp [D_X2_put, S_X2_put, m_den, l0, Value.category, s_seq, s_if, s_st, s_ret, s_retz, s_retv, s_skip, s_sc, s_inc, s_call, e_c, e_li, e_lr, e_lj, e_un, e_bin, e_if, e_b, b_not, b_and, b_or, b_of, e_call, a_recv, a_snoc, a_nil, prI, prJ, prR, e_gi, e_gr, e_ai, e_ar, s_as, s_aop, s_pf, s_pfz, s_fop, l_set, l_ok, e_div, e_rem, e_len, s_tab, narN, c, d, gsh0 f h, gsh2 f h, wrn f h hj]
theorem X7_wrong_out (f : FN) {s : Int32} (h : ¬ (0 ≤ s ∧ s ≤ 3)) : D_X7_wrong [.ref 103, .int s] (memOf f) = some (.int (-1000001), memOf f) := by
  simp [D_X7_wrong, S_X7_wrong, m_den, l0, Value.category, s_seq, s_if, s_st, s_ret, s_retz, s_retv, s_skip, s_sc, s_inc, s_call, e_c, e_li, e_lr, e_lj, e_un, e_bin, e_if, e_b, b_not, b_and, b_or, b_of, e_call, a_recv, a_snoc, a_nil, prI, prJ, prR, e_gi, e_gr, e_ai, e_ar, s_as, s_aop, s_pf, s_pfz, s_fop, l_set, l_ok, e_div, e_rem, e_len, s_tab, X7_isOne, h]
theorem X7_wrong_in (f : FN) {s : Nat} (h : s < 4) : D_X7_wrong [.ref 103, .int (nI s)] (memOf f) = some (.int (if f 112 s = 0 then -1000006 else 0), memOf f) := by
  have e1 : (0 : Int32) ≤ nI s := nI_pos' (by omega)
  have e2 : nI s ≤ (3 : Int32) := le_lit (n := 3) (by omega) (by omega)
  by_cases c : f 112 s = 0 <;> simp [D_X7_wrong, S_X7_wrong, m_den, l0, Value.category, s_seq, s_if, s_st, s_ret, s_retz, s_retv, s_skip, s_sc, s_inc, s_call, e_c, e_li, e_lr, e_lj, e_un, e_bin, e_if, e_b, b_not, b_and, b_or, b_of, e_call, a_recv, a_snoc, a_nil, prI, prJ, prR, e_gi, e_gr, e_ai, e_ar, s_as, s_aop, s_pf, s_pfz, s_fop, l_set, l_ok, e_div, e_rem, e_len, s_tab, X7_isOne, e1, e2, g_103_17, rd_112 f h, c]
theorem i40 (s j : Nat) : (40 : Int32) * nI s + nI j = nI (40 * s + j) := by rw [show (40 : Int32) = nI 40 from rfl, nI_m, nI_a]
theorem sub1_ex {k : Int32} {m : Nat} (h : 0 ≤ k ∧ k ≤ nI m - 1) (hm : m ≤ 1000) : ∃ n, n < m ∧ k = nI n := by
  match m, hm with
  | 0, _ => exact absurd (Int32.le_trans h.1 h.2) (by decide)
  | m + 1, hm =>
    have e : nI (m + 1) - 1 = nI m := nI_s (a := m + 1) (b := 1) (by omega)
    rw [e] at h
    obtain ⟨n, hn, e2⟩ := nI_ex h.1 h.2 (by omega)
    exact ⟨n, by omega, e2⟩
theorem X6_write_no (f : FN) {s i v : Int32} (h : ¬ (0 ≤ s ∧ s ≤ 3)) : D_X6_write [.ref 0, .int s, .int i, .int v] (memOf f) = some (.int (-1000001), memOf (row f 81 (upd (f 81) 0 (f 81 0 + 1)))) := by
  simp [D_X6_write, S_X6_write, m_den, l0, Value.category, s_seq, s_if, s_st, s_ret, s_retz, s_retv, s_skip, s_sc, s_inc, s_call, e_c, e_li, e_lr, e_lj, e_un, e_bin, e_if, e_b, b_not, b_and, b_or, b_of, e_call, a_recv, a_snoc, a_nil, prI, prJ, prR, e_gi, e_gr, e_ai, e_ar, s_as, s_aop, s_pf, s_pfz, s_fop, l_set, l_ok, e_div, e_rem, e_len, s_tab, X6_isSheet, h, rc_0, X6_fin_0]
theorem X7_write_no (f : FN) {s i v : Int32} (h : ¬ (0 ≤ s ∧ s ≤ 3)) : D_X7_write [.ref 103, .int s, .int i, .int v] (memOf f) = some (.int (-1000001), memOf (row f 107 (upd (f 107) 0 (f 107 0 + 1)))) := by
  simp [D_X7_write, S_X7_write, m_den, l0, Value.category, s_seq, s_if, s_st, s_ret, s_retz, s_retv, s_skip, s_sc, s_inc, s_call, e_c, e_li, e_lr, e_lj, e_un, e_bin, e_if, e_b, b_not, b_and, b_or, b_of, e_call, a_recv, a_snoc, a_nil, prI, prJ, prR, e_gi, e_gr, e_ai, e_ar, s_as, s_aop, s_pf, s_pfz, s_fop, l_set, l_ok, e_div, e_rem, e_len, s_tab, rc_103, X7_wrong_out f h, X7_fin_0]
theorem agr_write {f : FN} (h : REL f) (s i v : Int32) : AGR D_X6_write D_X7_write [.int s, .int i, .int v] f := by
  by_cases hs : 0 ≤ s ∧ s ≤ 3
  · obtain ⟨n, hn, rfl⟩ := in_ex (n := 3) hs (by omega)
    have a1 := hs.1
    have a2 := hs.2
    obtain ⟨⟨q1, q2⟩, ⟨z, hz, q3, q4, q5⟩, q6⟩ := h.sh hn
    by_cases b : f 112 n = 0
    · have b' := q1.trans b
      refine agr_find (j := 5) (v := -1000006) h ?_ (fun g hg => ?_)
      · simp [D_X6_write, S_X6_write, m_den, l0, Value.category, s_seq, s_if, s_st, s_ret, s_retz, s_retv, s_skip, s_sc, s_inc, s_call, e_c, e_li, e_lr, e_lj, e_un, e_bin, e_if, e_b, b_not, b_and, b_or, b_of, e_call, a_recv, a_snoc, a_nil, prI, prJ, prR, e_gi, e_gr, e_ai, e_ar, s_as, s_aop, s_pf, s_pfz, s_fop, l_set, l_ok, e_div, e_rem, e_len, s_tab, X6_isSheet, a1, a2, rc_0, g_0_4, rr_sh f hn, rcsh f hn, X2_isMissing f hn, b', X6_fin_5]
      · have b2 : g 112 n = 0 := by rw [hg.2.2.1]; exact b
        simp [D_X7_write, S_X7_write, m_den, l0, Value.category, s_seq, s_if, s_st, s_ret, s_retz, s_retv, s_skip, s_sc, s_inc, s_call, e_c, e_li, e_lr, e_lj, e_un, e_bin, e_if, e_b, b_not, b_and, b_or, b_of, e_call, a_recv, a_snoc, a_nil, prI, prJ, prR, e_gi, e_gr, e_ai, e_ar, s_as, s_aop, s_pf, s_pfz, s_fop, l_set, l_ok, e_div, e_rem, e_len, s_tab, rc_103, X7_wrong_in g hn, b2, X7_fin_5]
    · have b' : ¬ f (95 + 2 * n) 0 = 0 := by rw [q1]; exact b
      by_cases hi : 0 ≤ i ∧ i ≤ nI z - 1
      · obtain ⟨j, hj, rfl⟩ := sub1_ex hi (by omega)
        have c1 := hi.1
        have c2 := hi.2
        have h40 : j < 40 := by omega
        refine ⟨1, row f (96 + 2 * n) (upd (f (96 + 2 * n)) j (narN (f 112 n) v)), row (row f (96 + 2 * n) (upd (f (96 + 2 * n)) j (narN (f 112 n) v))) 114 (upd (f 114) (40 * n + j) (narN (f 112 n) v)), ?_, ?_, ?_⟩
        · have p := X2_put f hn h40 v
          rw [q1] at p
          simp [D_X6_write, S_X6_write, m_den, l0, Value.category, s_seq, s_if, s_st, s_ret, s_retz, s_retv, s_skip, s_sc, s_inc, s_call, e_c, e_li, e_lr, e_lj, e_un, e_bin, e_if, e_b, b_not, b_and, b_or, b_of, e_call, a_recv, a_snoc, a_nil, prI, prJ, prR, e_gi, e_gr, e_ai, e_ar, s_as, s_aop, s_pf, s_pfz, s_fop, l_set, l_ok, e_div, e_rem, e_len, s_tab, X6_isSheet, X6_isIn, a1, a2, c1, c2, rc_0, g_0_4, rr_sh f hn, rcsh f hn, X2_isMissing f hn, b', gsh1 f hn, q3, p]
        · have e : ∀ j', j' ≠ 96 + 2 * n → row f (96 + 2 * n) (upd (f (96 + 2 * n)) j (narN (f 112 n) v)) j' = f j' := fun j' hj' => row_ne _ _ hj'
          have e2 := e 112 (by omega)
          have e3 := e 113 (by omega)
          have e4 := e 114 (by omega)
          simp [D_X7_write, S_X7_write, m_den, l0, Value.category, s_seq, s_if, s_st, s_ret, s_retz, s_retv, s_skip, s_sc, s_inc, s_call, e_c, e_li, e_lr, e_lj, e_un, e_bin, e_if, e_b, b_not, b_and, b_or, b_of, e_call, a_recv, a_snoc, a_nil, prI, prJ, prR, e_gi, e_gr, e_ai, e_ar, s_as, s_aop, s_pf, s_pfz, s_fop, l_set, l_ok, e_div, e_rem, e_len, s_tab, rc_103, X7_in, j_ge_0, j_le, X7_wrong_in _ hn, e2, e3, e4, b, c1, c2, g_103_17, g_103_18, g_103_19, rd_112 _ hn, rd_113 _ hn, q4, X7_narrowed, i40, wr_114 _ (show 40 * n + j < 160 by omega)]
        · refine h.sheet hn (fun j' h1 h2 h3 h4 h5 => by rw [row_ne _ _ h5, row_ne _ _ h2]) (fun t ht et => ⟨by rw [row_ne _ _ (by omega), row_ne _ _ (by omega)], by rw [row_ne _ _ (by omega), row_ne _ _ (by omega)], fun i hi => by rw [row_self, upd_ne _ _ (by omega)]⟩) ⟨⟨?_, ?_⟩, ⟨z, hz, ?_, ?_, ?_⟩, fun i hi => ?_⟩
          · rw [row_ne _ _ (by omega), row_ne _ _ (by omega), row_ne _ _ (by omega), row_ne _ _ (by omega)]; exact q1
          · rw [row_ne _ _ (by omega), row_ne _ _ (by omega)]; exact q2
          · rw [row_ne _ _ (by omega), row_ne _ _ (by omega)]; exact q3
          · rw [row_ne _ _ (by omega), row_ne _ _ (by omega)]; exact q4
          · rw [row_ne _ _ (by omega), row_ne _ _ (by omega)]; exact q5
          · rw [row_self, row_ne _ _ (show 96 + 2 * n ≠ 114 by omega), row_self]
            by_cases ei : i = j
            · subst ei; rw [upd_self, upd_self]
            · rw [upd_ne _ _ ei, upd_ne _ _ (by omega)]; exact q6 i hi
      · refine agr_find (j := 0) (v := -1000001) h ?_ (fun g hg => ?_)
        · by_cases c1 : 0 ≤ i
          · have c2 : ¬ i ≤ nI z - 1 := fun q => hi ⟨c1, q⟩
            simp [D_X6_write, S_X6_write, m_den, l0, Value.category, s_seq, s_if, s_st, s_ret, s_retz, s_retv, s_skip, s_sc, s_inc, s_call, e_c, e_li, e_lr, e_lj, e_un, e_bin, e_if, e_b, b_not, b_and, b_or, b_of, e_call, a_recv, a_snoc, a_nil, prI, prJ, prR, e_gi, e_gr, e_ai, e_ar, s_as, s_aop, s_pf, s_pfz, s_fop, l_set, l_ok, e_div, e_rem, e_len, s_tab, X6_isSheet, X6_isIn, a1, a2, c1, c2, rc_0, g_0_4, rr_sh f hn, rcsh f hn, X2_isMissing f hn, b', gsh1 f hn, q3, X6_fin_0]
          · simp [D_X6_write, S_X6_write, m_den, l0, Value.category, s_seq, s_if, s_st, s_ret, s_retz, s_retv, s_skip, s_sc, s_inc, s_call, e_c, e_li, e_lr, e_lj, e_un, e_bin, e_if, e_b, b_not, b_and, b_or, b_of, e_call, a_recv, a_snoc, a_nil, prI, prJ, prR, e_gi, e_gr, e_ai, e_ar, s_as, s_aop, s_pf, s_pfz, s_fop, l_set, l_ok, e_div, e_rem, e_len, s_tab, X6_isSheet, X6_isIn, a1, a2, c1, rc_0, g_0_4, rr_sh f hn, rcsh f hn, X2_isMissing f hn, b', gsh1 f hn, q3, X6_fin_0]
        · have b2 : ¬ g 112 n = 0 := by rw [hg.2.2.1]; exact b
          have q4' : g 113 n = nI z := by rw [hg.2.2.2.1]; exact q4
          by_cases c1 : 0 ≤ i
          · have c2 : ¬ i ≤ nI z - 1 := fun q => hi ⟨c1, q⟩
            simp [D_X7_write, S_X7_write, m_den, l0, Value.category, s_seq, s_if, s_st, s_ret, s_retz, s_retv, s_skip, s_sc, s_inc, s_call, e_c, e_li, e_lr, e_lj, e_un, e_bin, e_if, e_b, b_not, b_and, b_or, b_of, e_call, a_recv, a_snoc, a_nil, prI, prJ, prR, e_gi, e_gr, e_ai, e_ar, s_as, s_aop, s_pf, s_pfz, s_fop, l_set, l_ok, e_div, e_rem, e_len, s_tab, rc_103, X7_in, j_ge_0, j_le, X7_wrong_in _ hn, b2, c1, c2, g_103_18, rd_113 _ hn, q4', X7_fin_0]
          · simp [D_X7_write, S_X7_write, m_den, l0, Value.category, s_seq, s_if, s_st, s_ret, s_retz, s_retv, s_skip, s_sc, s_inc, s_call, e_c, e_li, e_lr, e_lj, e_un, e_bin, e_if, e_b, b_not, b_and, b_or, b_of, e_call, a_recv, a_snoc, a_nil, prI, prJ, prR, e_gi, e_gr, e_ai, e_ar, s_as, s_aop, s_pf, s_pfz, s_fop, l_set, l_ok, e_div, e_rem, e_len, s_tab, rc_103, X7_in, j_ge_0, j_le, X7_wrong_in _ hn, b2, c1, g_103_18, rd_113 _ hn, q4', X7_fin_0]
  · exact agr_find h (X6_write_no f hs) (fun g _ => X7_write_no g hs)
