/-! numbers of a token: the class -/
def nv (T : Nat → Nat) (s : Nat) : Nat → Nat
  | 0 => 0
  | n + 1 => 10 * nv T s n + (T (s + n) - 48)
theorem X4_numberAtHand (f : FN) {T : Nat → Nat} {t s e k : Nat} (hT : TPX f T t) (hk : TKX f s e k) (hb : s ≤ e ∧ e ≤ t) (hd : ∀ i, s ≤ i → i < e → 48 ≤ T i ∧ T i ≤ 57) : D_X4_numberAtHand [.ref 78] (memOf f) = some (.int (nI (min (nv T s (e - s)) 1000)), memOf f) := by
  obtain ⟨t1, t2, t3⟩ := hT
  obtain ⟨k1, k2, k3⟩ := hk
  have key := while_count (b := WB_X4_numberAtHand_1) (s := WS_X4_numberAtHand_1) (fun j => ([.ref 78, .int (nI (min (nv T s j) 1000)), .int (nI (s + j))], memOf f)) (e - s) (by unfold FU; omega) (fun j hj => ?_) (fun j hj => ?_) ?_
  · have W : W_X4_numberAtHand_1 [.ref 78, .int 0, .int (nI s)] (memOf f) = some (.inl ([.ref 78, .int (nI (min (nv T s (e - s)) 1000)), .int (nI (s + (e - s)))], memOf f)) := key
    simp [D_X4_numberAtHand, S_X4_numberAtHand, m_den, l0, Value.category, s_seq, s_if, s_st, s_ret, s_retz, s_retv, s_skip, s_sc, s_inc, s_call, e_c, e_li, e_lr, e_lj, e_un, e_bin, e_if, e_b, b_not, b_and, b_or, b_of, e_call, a_recv, a_snoc, a_nil, prI, prJ, prR, e_gi, e_gr, e_ai, e_ar, s_as, s_aop, s_pf, s_pfz, s_fop, l_set, l_ok, e_div, e_rem, e_len, s_tab, g_78_4, k2, W]
  · have e' : nI (s + j) < nI e := (nI_lt_iff (by omega) (by omega)).mpr (by omega)
    simp [WB_X4_numberAtHand_1, m_den, l0, Value.category, s_seq, s_if, s_st, s_ret, s_retz, s_retv, s_skip, s_sc, s_inc, s_call, e_c, e_li, e_lr, e_lj, e_un, e_bin, e_if, e_b, b_not, b_and, b_or, b_of, e_call, a_recv, a_snoc, a_nil, prI, prJ, prR, e_gi, e_gr, e_ai, e_ar, s_as, s_aop, s_pf, s_pfz, s_fop, l_set, l_ok, e_div, e_rem, e_len, s_tab, g_78_5, k3, e']
  · have h := hd (s + j) (by omega) (by omega)
    have r := rd_79 f (show s + j < 120 by omega)
    rw [(t3 _ (by omega)).1] at r
    obtain ⟨v, ev⟩ : ∃ v, v = min (nv T s j) 1000 := ⟨_, rfl⟩
    have hv : v ≤ 1000 := by omega
    have e1 : nI v * 10 + nI (T (s + j)) - 48 = nI (10 * v + (T (s + j) - 48)) := by
      have a1 : nI v * 10 = nI (v * 10) := nI_m v 10
      have a2 : nI (v * 10 + T (s + j)) - 48 = nI (v * 10 + T (s + j) - 48) := nI_s (a := v * 10 + T (s + j)) (b := 48) (by omega)
      rw [a1, nI_a, a2, show v * 10 + T (s + j) - 48 = 10 * v + (T (s + j) - 48) by omega]
    have e2 : (if nI (10 * v + (T (s + j) - 48)) ≤ (1000 : Int32) then nI (10 * v + (T (s + j) - 48)) else 1000) = nI (min (nv T s (j + 1)) 1000) := by
      have ex : min (nv T s (j + 1)) 1000 = min (10 * v + (T (s + j) - 48)) 1000 := by
        show min (10 * nv T s j + (T (s + j) - 48)) 1000 = _
        omega
      rw [ex]
      by_cases c : 10 * v + (T (s + j) - 48) ≤ 1000
      · have q : nI (10 * v + (T (s + j) - 48)) ≤ (1000 : Int32) := le_lit (n := 1000) c (by omega)
        rw [if_pos q, Nat.min_eq_left c]
      · have q : ¬ nI (10 * v + (T (s + j) - 48)) ≤ (1000 : Int32) := fun q => c ((nI_le_iff (a := 10 * v + (T (s + j) - 48)) (b := 1000) (by omega) (by omega)).mp q)
        rw [if_neg q, Nat.min_eq_right (by omega)]; rfl
    simp only [← ev]
    simp [WS_X4_numberAtHand_1, m_den, l0, Value.category, s_seq, s_if, s_st, s_ret, s_retz, s_retv, s_skip, s_sc, s_inc, s_call, e_c, e_li, e_lr, e_lj, e_un, e_bin, e_if, e_b, b_not, b_and, b_or, b_of, e_call, a_recv, a_snoc, a_nil, prI, prJ, prR, e_gi, e_gr, e_ai, e_ar, s_as, s_aop, s_pf, s_pfz, s_fop, l_set, l_ok, e_div, e_rem, e_len, s_tab, g_78_0, r, e1, J9_min, e2, nI_next]
    rfl
  · have e' : ¬ nI (s + (e - s)) < nI e := fun q => absurd ((nI_lt_iff (by omega) (by omega)).mp q) (by omega)
    simp [WB_X4_numberAtHand_1, m_den, l0, Value.category, s_seq, s_if, s_st, s_ret, s_retz, s_retv, s_skip, s_sc, s_inc, s_call, e_c, e_li, e_lr, e_lj, e_un, e_bin, e_if, e_b, b_not, b_and, b_or, b_of, e_call, a_recv, a_snoc, a_nil, prI, prJ, prR, e_gi, e_gr, e_ai, e_ar, s_as, s_aop, s_pf, s_pfz, s_fop, l_set, l_ok, e_div, e_rem, e_len, s_tab, g_78_5, k3, e']
theorem X4_hasFault (f : FN) : D_X4_hasFault [.ref 78] (memOf f) = some (.int (if 0 ≤ f 78 2 then 1 else 0), memOf f) := by
  by_cases c : 0 ≤ f 78 2 <;> simp [D_X4_hasFault, S_X4_hasFault, m_den, l0, Value.category, s_seq, s_if, s_st, s_ret, s_retz, s_retv, s_skip, s_sc, s_inc, s_call, e_c, e_li, e_lr, e_lj, e_un, e_bin, e_if, e_b, b_not, b_and, b_or, b_of, e_call, a_recv, a_snoc, a_nil, prI, prJ, prR, e_gi, e_gr, e_ai, e_ar, s_as, s_aop, s_pf, s_pfz, s_fop, l_set, l_ok, e_div, e_rem, e_len, s_tab, g_78_2, c]
theorem X4_fail_no (f : FN) (h : f 78 2 < 0) : D_X4_fail [.ref 78] (memOf f) = some (.null, memOf (row f 78 (upd (f 78) 2 (f 78 4)))) := by
  simp [D_X4_fail, S_X4_fail, m_den, l0, Value.category, s_seq, s_if, s_st, s_ret, s_retz, s_retv, s_skip, s_sc, s_inc, s_call, e_c, e_li, e_lr, e_lj, e_un, e_bin, e_if, e_b, b_not, b_and, b_or, b_of, e_call, a_recv, a_snoc, a_nil, prI, prJ, prR, e_gi, e_gr, e_ai, e_ar, s_as, s_aop, s_pf, s_pfz, s_fop, l_set, l_ok, e_div, e_rem, e_len, s_tab, g_78_2, h, g_78_4, p_78_2]
theorem X4_fail_yes (f : FN) (h : ¬ f 78 2 < 0) : D_X4_fail [.ref 78] (memOf f) = some (.null, memOf f) := by
  simp [D_X4_fail, S_X4_fail, m_den, l0, Value.category, s_seq, s_if, s_st, s_ret, s_retz, s_retv, s_skip, s_sc, s_inc, s_call, e_c, e_li, e_lr, e_lj, e_un, e_bin, e_if, e_b, b_not, b_and, b_or, b_of, e_call, a_recv, a_snoc, a_nil, prI, prJ, prR, e_gi, e_gr, e_ai, e_ar, s_as, s_aop, s_pf, s_pfz, s_fop, l_set, l_ok, e_div, e_rem, e_len, s_tab, g_78_2, h]
