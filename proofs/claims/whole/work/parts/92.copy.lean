/-! copy -/
theorem X2_hasPart (f : FN) {s : Nat} (h : s < 4) (b k : Int32) : D_X2_hasPart [.ref (95 + 2 * s), .int b, .int k] (memOf f) = some (.int (if 0 ≤ b ∧ 0 ≤ k ∧ b ≤ f (95 + 2 * s) 1 ∧ k ≤ f (95 + 2 * s) 1 - b then 1 else 0), memOf f) := by
  by_cases h1 : 0 ≤ b <;> by_cases h2 : 0 ≤ k <;> by_cases h3 : b ≤ f (95 + 2 * s) 1 <;> by_cases h4 : k ≤ f (95 + 2 * s) 1 - b <;> simp [D_X2_hasPart, S_X2_hasPart, m_den, l0, Value.category, s_seq, s_if, s_st, s_ret, s_retz, s_retv, s_skip, s_sc, s_inc, s_call, e_c, e_li, e_lr, e_lj, e_un, e_bin, e_if, e_b, b_not, b_and, b_or, b_of, e_call, a_recv, a_snoc, a_nil, prI, prJ, prR, e_gi, e_gr, e_ai, e_ar, s_as, s_aop, s_pf, s_pfz, s_fop, l_set, l_ok, e_div, e_rem, e_len, s_tab, gsh1 f h, h1, h2, h3, h4]
theorem part_ex {n : Nat} {b k : Int32} (hn : n ≤ 40) (h0 : 0 ≤ b) (h1 : 0 ≤ k) (h2 : k ≤ nI n - b) : ∃ b' k', b = nI b' ∧ k = nI k' ∧ b' + k' ≤ n := by
  have e0 := Int32.le_iff_toInt_le.mp h0
  have e1 := Int32.le_iff_toInt_le.mp h1
  have e2 := Int32.le_iff_toInt_le.mp h2
  rw [Int32.toInt_zero] at e0 e1
  have hb := b.toInt_lt
  have en : (nI n).toInt = n := nI_toInt (by omega)
  have es : (nI n - b).toInt = n - b.toInt := by
    rw [Int32.toInt_sub, en]
    apply Int.bmod_eq_of_le <;> omega
  rw [es] at e2
  refine ⟨b.toInt.toNat, k.toInt.toNat, ?_, ?_, ?_⟩
  · rw [iI_n, Int.toNat_of_nonneg e0]; exact iI_toInt b
  · rw [iI_n, Int.toNat_of_nonneg e1]; exact iI_toInt k
  · omega
theorem X7_copy_W1 (f : FN) {s b n : Nat} (hs : s < 4) (hb : b + n ≤ 40) (a3 a4 : Int32) : ∃ g, W_X7_copy_1 [.ref 103, .int (nI s), .int (nI b), .int a3, .int a4, .int (nI n), .int 0] (memOf f) = some (.inl ([.ref 103, .int (nI s), .int (nI b), .int a3, .int a4, .int (nI n), .int (nI n)], memOf g)) ∧ (∀ x, x ≠ 115 → g x = f x) ∧ ∀ j, j < n → g 115 j = f 114 (40 * s + b + j) := by
  have key := while_rel (b := WB_X7_copy_1) (s := WS_X7_copy_1) (fun j => [.ref 103, .int (nI s), .int (nI b), .int a3, .int a4, .int (nI n), .int (nI j)]) (fun j g => (∀ x, x ≠ 115 → g x = f x) ∧ ∀ i, i < j → g 115 i = f 114 (40 * s + b + i)) n (by unfold FU; omega) (fun j g hj hI => ?_) (fun j g hj hI => ?_) (fun g hI => ?_) (f := f) ⟨fun _ _ => rfl, fun i hi => absurd hi (by omega)⟩
  · exact key
  · have e : nI j < nI n := (nI_lt_iff (by omega) (by omega)).mpr hj
    simp [WB_X7_copy_1, m_den, l0, Value.category, s_seq, s_if, s_st, s_ret, s_retz, s_retv, s_skip, s_sc, s_inc, s_call, e_c, e_li, e_lr, e_lj, e_un, e_bin, e_if, e_b, b_not, b_and, b_or, b_of, e_call, a_recv, a_snoc, a_nil, prI, prJ, prR, e_gi, e_gr, e_ai, e_ar, s_as, s_aop, s_pf, s_pfz, s_fop, l_set, l_ok, e_div, e_rem, e_len, s_tab, e]
  · refine ⟨row g 115 (upd (g 115) j (g 114 (40 * s + b + j))), ?_, fun x hx => by rw [row_ne _ _ hx]; exact hI.1 x hx, fun i hi => ?_⟩
    · simp [WS_X7_copy_1, m_den, l0, Value.category, s_seq, s_if, s_st, s_ret, s_retz, s_retv, s_skip, s_sc, s_inc, s_call, e_c, e_li, e_lr, e_lj, e_un, e_bin, e_if, e_b, b_not, b_and, b_or, b_of, e_call, a_recv, a_snoc, a_nil, prI, prJ, prR, e_gi, e_gr, e_ai, e_ar, s_as, s_aop, s_pf, s_pfz, s_fop, l_set, l_ok, e_div, e_rem, e_len, s_tab, g_103_19, g_103_20, i40, nI_a, rd_114 g (show 40 * s + b + j < 160 by omega), wr_115 g (show j < 40 by omega), nI_next]
    · rw [row_self]
      by_cases e : i = j
      · subst e; rw [upd_self, hI.1 114 (by omega)]
      · rw [upd_ne _ _ e]; exact hI.2 i (by omega)
  · have e : ¬ nI n < nI n := Int32.lt_irrefl
    simp [WB_X7_copy_1, m_den, l0, Value.category, s_seq, s_if, s_st, s_ret, s_retz, s_retv, s_skip, s_sc, s_inc, s_call, e_c, e_li, e_lr, e_lj, e_un, e_bin, e_if, e_b, b_not, b_and, b_or, b_of, e_call, a_recv, a_snoc, a_nil, prI, prJ, prR, e_gi, e_gr, e_ai, e_ar, s_as, s_aop, s_pf, s_pfz, s_fop, l_set, l_ok, e_div, e_rem, e_len, s_tab, e]
theorem X7_copy_W2 (f : FN) {t a n : Nat} (ht : t < 4) (ha : a + n ≤ 40) (a1 a2 : Int32) : ∃ g, W_X7_copy_2 [.ref 103, .int a1, .int a2, .int (nI t), .int (nI a), .int (nI n), .int 0] (memOf f) = some (.inl ([.ref 103, .int a1, .int a2, .int (nI t), .int (nI a), .int (nI n), .int (nI n)], memOf g)) ∧ (∀ x, x ≠ 114 → g x = f x) ∧ (∀ y, ¬ (40 * t + a ≤ y ∧ y < 40 * t + a + n) → g 114 y = f 114 y) ∧ ∀ j, j < n → g 114 (40 * t + a + j) = f 115 j := by
  have key := while_rel (b := WB_X7_copy_2) (s := WS_X7_copy_2) (fun j => [.ref 103, .int a1, .int a2, .int (nI t), .int (nI a), .int (nI n), .int (nI j)]) (fun j g => (∀ x, x ≠ 114 → g x = f x) ∧ (∀ y, ¬ (40 * t + a ≤ y ∧ y < 40 * t + a + n) → g 114 y = f 114 y) ∧ ∀ i, i < j → g 114 (40 * t + a + i) = f 115 i) n (by unfold FU; omega) (fun j g hj hI => ?_) (fun j g hj hI => ?_) (fun g hI => ?_) (f := f) ⟨fun _ _ => rfl, fun _ _ => rfl, fun i hi => absurd hi (by omega)⟩
  · exact key
  · have e : nI j < nI n := (nI_lt_iff (by omega) (by omega)).mpr hj
    simp [WB_X7_copy_2, m_den, l0, Value.category, s_seq, s_if, s_st, s_ret, s_retz, s_retv, s_skip, s_sc, s_inc, s_call, e_c, e_li, e_lr, e_lj, e_un, e_bin, e_if, e_b, b_not, b_and, b_or, b_of, e_call, a_recv, a_snoc, a_nil, prI, prJ, prR, e_gi, e_gr, e_ai, e_ar, s_as, s_aop, s_pf, s_pfz, s_fop, l_set, l_ok, e_div, e_rem, e_len, s_tab, e]
  · refine ⟨row g 114 (upd (g 114) (40 * t + a + j) (g 115 j)), ?_, fun x hx => by rw [row_ne _ _ hx]; exact hI.1 x hx, fun y hy => by rw [row_self, upd_ne _ _ (by omega)]; exact hI.2.1 y hy, fun i hi => ?_⟩
    · simp [WS_X7_copy_2, m_den, l0, Value.category, s_seq, s_if, s_st, s_ret, s_retz, s_retv, s_skip, s_sc, s_inc, s_call, e_c, e_li, e_lr, e_lj, e_un, e_bin, e_if, e_b, b_not, b_and, b_or, b_of, e_call, a_recv, a_snoc, a_nil, prI, prJ, prR, e_gi, e_gr, e_ai, e_ar, s_as, s_aop, s_pf, s_pfz, s_fop, l_set, l_ok, e_div, e_rem, e_len, s_tab, g_103_19, g_103_20, i40, nI_a, rd_115 g (show j < 40 by omega), wr_114 g (show 40 * t + a + j < 160 by omega), nI_next]
    · rw [row_self]
      by_cases e : i = j
      · subst e; rw [upd_self, hI.1 115 (by omega)]
      · rw [upd_ne _ _ (by omega)]; exact hI.2.2 i (by omega)
  · have e : ¬ nI n < nI n := Int32.lt_irrefl
    simp [WB_X7_copy_2, m_den, l0, Value.category, s_seq, s_if, s_st, s_ret, s_retz, s_retv, s_skip, s_sc, s_inc, s_call, e_c, e_li, e_lr, e_lj, e_un, e_bin, e_if, e_b, b_not, b_and, b_or, b_of, e_call, a_recv, a_snoc, a_nil, prI, prJ, prR, e_gi, e_gr, e_ai, e_ar, s_as, s_aop, s_pf, s_pfz, s_fop, l_set, l_ok, e_div, e_rem, e_len, s_tab, e]
theorem X6_copy_no0 (f : FN) {s b t a k : Int32} (h : ¬ (0 ≤ s ∧ s ≤ 3 ∧ 0 ≤ t ∧ t ≤ 3)) : D_X6_copy [.ref 0, .int s, .int b, .int t, .int a, .int k] (memOf f) = some (.int (-1000001), memOf (row f 81 (upd (f 81) 0 (f 81 0 + 1)))) := by
  by_cases h1 : 0 ≤ s
  · by_cases h2 : s ≤ 3
    · by_cases h3 : 0 ≤ t
      · have h4 : ¬ (t ≤ 3) := fun q => h ⟨h1, h2, h3, q⟩
        simp [D_X6_copy, S_X6_copy, m_den, l0, Value.category, s_seq, s_if, s_st, s_ret, s_retz, s_retv, s_skip, s_sc, s_inc, s_call, e_c, e_li, e_lr, e_lj, e_un, e_bin, e_if, e_b, b_not, b_and, b_or, b_of, e_call, a_recv, a_snoc, a_nil, prI, prJ, prR, e_gi, e_gr, e_ai, e_ar, s_as, s_aop, s_pf, s_pfz, s_fop, l_set, l_ok, e_div, e_rem, e_len, s_tab, X6_isSheet, rc_0, X6_fin_0, h1, h2, h3, h4]
      · simp [D_X6_copy, S_X6_copy, m_den, l0, Value.category, s_seq, s_if, s_st, s_ret, s_retz, s_retv, s_skip, s_sc, s_inc, s_call, e_c, e_li, e_lr, e_lj, e_un, e_bin, e_if, e_b, b_not, b_and, b_or, b_of, e_call, a_recv, a_snoc, a_nil, prI, prJ, prR, e_gi, e_gr, e_ai, e_ar, s_as, s_aop, s_pf, s_pfz, s_fop, l_set, l_ok, e_div, e_rem, e_len, s_tab, X6_isSheet, rc_0, X6_fin_0, h1, h2, h3]
    · simp [D_X6_copy, S_X6_copy, m_den, l0, Value.category, s_seq, s_if, s_st, s_ret, s_retz, s_retv, s_skip, s_sc, s_inc, s_call, e_c, e_li, e_lr, e_lj, e_un, e_bin, e_if, e_b, b_not, b_and, b_or, b_of, e_call, a_recv, a_snoc, a_nil, prI, prJ, prR, e_gi, e_gr, e_ai, e_ar, s_as, s_aop, s_pf, s_pfz, s_fop, l_set, l_ok, e_div, e_rem, e_len, s_tab, X6_isSheet, rc_0, X6_fin_0, h1, h2]
  · simp [D_X6_copy, S_X6_copy, m_den, l0, Value.category, s_seq, s_if, s_st, s_ret, s_retz, s_retv, s_skip, s_sc, s_inc, s_call, e_c, e_li, e_lr, e_lj, e_un, e_bin, e_if, e_b, b_not, b_and, b_or, b_of, e_call, a_recv, a_snoc, a_nil, prI, prJ, prR, e_gi, e_gr, e_ai, e_ar, s_as, s_aop, s_pf, s_pfz, s_fop, l_set, l_ok, e_div, e_rem, e_len, s_tab, X6_isSheet, rc_0, X6_fin_0, h1]
theorem X7_copy_no0 (f : FN) {s b t a k : Int32} (h : ¬ (0 ≤ s ∧ s ≤ 3 ∧ 0 ≤ t ∧ t ≤ 3)) : D_X7_copy [.ref 103, .int s, .int b, .int t, .int a, .int k] (memOf f) = some (.int (-1000001), memOf (row f 107 (upd (f 107) 0 (f 107 0 + 1)))) := by
  by_cases h1 : 0 ≤ s
  · by_cases h2 : s ≤ 3
    · by_cases h3 : 0 ≤ t
      · have h4 : ¬ (t ≤ 3) := fun q => h ⟨h1, h2, h3, q⟩
        simp [D_X7_copy, S_X7_copy, m_den, l0, Value.category, s_seq, s_if, s_st, s_ret, s_retz, s_retv, s_skip, s_sc, s_inc, s_call, e_c, e_li, e_lr, e_lj, e_un, e_bin, e_if, e_b, b_not, b_and, b_or, b_of, e_call, a_recv, a_snoc, a_nil, prI, prJ, prR, e_gi, e_gr, e_ai, e_ar, s_as, s_aop, s_pf, s_pfz, s_fop, l_set, l_ok, e_div, e_rem, e_len, s_tab, X7_isOne, rc_103, X7_fin_0, h1, h2, h3, h4]
      · simp [D_X7_copy, S_X7_copy, m_den, l0, Value.category, s_seq, s_if, s_st, s_ret, s_retz, s_retv, s_skip, s_sc, s_inc, s_call, e_c, e_li, e_lr, e_lj, e_un, e_bin, e_if, e_b, b_not, b_and, b_or, b_of, e_call, a_recv, a_snoc, a_nil, prI, prJ, prR, e_gi, e_gr, e_ai, e_ar, s_as, s_aop, s_pf, s_pfz, s_fop, l_set, l_ok, e_div, e_rem, e_len, s_tab, X7_isOne, rc_103, X7_fin_0, h1, h2, h3]
    · simp [D_X7_copy, S_X7_copy, m_den, l0, Value.category, s_seq, s_if, s_st, s_ret, s_retz, s_retv, s_skip, s_sc, s_inc, s_call, e_c, e_li, e_lr, e_lj, e_un, e_bin, e_if, e_b, b_not, b_and, b_or, b_of, e_call, a_recv, a_snoc, a_nil, prI, prJ, prR, e_gi, e_gr, e_ai, e_ar, s_as, s_aop, s_pf, s_pfz, s_fop, l_set, l_ok, e_div, e_rem, e_len, s_tab, X7_isOne, rc_103, X7_fin_0, h1, h2]
  · simp [D_X7_copy, S_X7_copy, m_den, l0, Value.category, s_seq, s_if, s_st, s_ret, s_retz, s_retv, s_skip, s_sc, s_inc, s_call, e_c, e_li, e_lr, e_lj, e_un, e_bin, e_if, e_b, b_not, b_and, b_or, b_of, e_call, a_recv, a_snoc, a_nil, prI, prJ, prR, e_gi, e_gr, e_ai, e_ar, s_as, s_aop, s_pf, s_pfz, s_fop, l_set, l_ok, e_div, e_rem, e_len, s_tab, X7_isOne, rc_103, X7_fin_0, h1]
theorem agr_copy {f : FN} (h : REL f) (s b t a k : Int32) : AGR D_X6_copy D_X7_copy [.int s, .int b, .int t, .int a, .int k] f := by
  by_cases hst : 0 ≤ s ∧ s ≤ 3 ∧ 0 ≤ t ∧ t ≤ 3
  · obtain ⟨s, hs, rfl⟩ := in_ex (n := 3) ⟨hst.1, hst.2.1⟩ (by omega)
    obtain ⟨t, ht, rfl⟩ := in_ex (n := 3) hst.2.2 (by omega)
    obtain ⟨c1, c2, c3, c4⟩ := hst
    obtain ⟨⟨q1, q2⟩, ⟨n1, hn1, q3, q4, q5⟩, q6⟩ := h.sh hs
    obtain ⟨⟨r1, r2⟩, ⟨n2, hn2, r3, r4, r5⟩, r6⟩ := h.sh ht
    by_cases z1 : f 112 s = 0
    · have z1' := q1.trans z1
      refine agr_find (j := 5) (v := -1000006) h ?_ (fun g hg => ?_)
      · simp [D_X6_copy, S_X6_copy, m_den, l0, Value.category, s_seq, s_if, s_st, s_ret, s_retz, s_retv, s_skip, s_sc, s_inc, s_call, e_c, e_li, e_lr, e_lj, e_un, e_bin, e_if, e_b, b_not, b_and, b_or, b_of, e_call, a_recv, a_snoc, a_nil, prI, prJ, prR, e_gi, e_gr, e_ai, e_ar, s_as, s_aop, s_pf, s_pfz, s_fop, l_set, l_ok, e_div, e_rem, e_len, s_tab, X6_isSheet, c1, c2, c3, c4, rc_0, g_0_4, rr_sh f hs, rcsh f hs, X2_isMissing f hs, z1', X6_fin_5]
      · have b2 : g 112 s = 0 := by rw [hg.2.2.1]; exact z1
        simp [D_X7_copy, S_X7_copy, m_den, l0, Value.category, s_seq, s_if, s_st, s_ret, s_retz, s_retv, s_skip, s_sc, s_inc, s_call, e_c, e_li, e_lr, e_lj, e_un, e_bin, e_if, e_b, b_not, b_and, b_or, b_of, e_call, a_recv, a_snoc, a_nil, prI, prJ, prR, e_gi, e_gr, e_ai, e_ar, s_as, s_aop, s_pf, s_pfz, s_fop, l_set, l_ok, e_div, e_rem, e_len, s_tab, X7_isOne, c1, c2, c3, c4, rc_103, g_103_17, rd_112 g hs, b2, X7_fin_5]
    · have z1' : ¬ f (95 + 2 * s) 0 = 0 := by rw [q1]; exact z1
      by_cases z2 : f 112 t = 0
      · have z2' := r1.trans z2
        refine agr_find (j := 5) (v := -1000006) h ?_ (fun g hg => ?_)
        · simp [D_X6_copy, S_X6_copy, m_den, l0, Value.category, s_seq, s_if, s_st, s_ret, s_retz, s_retv, s_skip, s_sc, s_inc, s_call, e_c, e_li, e_lr, e_lj, e_un, e_bin, e_if, e_b, b_not, b_and, b_or, b_of, e_call, a_recv, a_snoc, a_nil, prI, prJ, prR, e_gi, e_gr, e_ai, e_ar, s_as, s_aop, s_pf, s_pfz, s_fop, l_set, l_ok, e_div, e_rem, e_len, s_tab, X6_isSheet, c1, c2, c3, c4, rc_0, g_0_4, rr_sh f hs, rcsh f hs, X2_isMissing f hs, z1', rr_sh f ht, rcsh f ht, X2_isMissing f ht, z2', X6_fin_5]
        · have b1 : ¬ g 112 s = 0 := by rw [hg.2.2.1]; exact z1
          have b2 : g 112 t = 0 := by rw [hg.2.2.1]; exact z2
          simp [D_X7_copy, S_X7_copy, m_den, l0, Value.category, s_seq, s_if, s_st, s_ret, s_retz, s_retv, s_skip, s_sc, s_inc, s_call, e_c, e_li, e_lr, e_lj, e_un, e_bin, e_if, e_b, b_not, b_and, b_or, b_of, e_call, a_recv, a_snoc, a_nil, prI, prJ, prR, e_gi, e_gr, e_ai, e_ar, s_as, s_aop, s_pf, s_pfz, s_fop, l_set, l_ok, e_div, e_rem, e_len, s_tab, X7_isOne, c1, c2, c3, c4, rc_103, g_103_17, rd_112 g hs, rd_112 g ht, b1, b2, X7_fin_5]
      · have z2' : ¬ f (95 + 2 * t) 0 = 0 := by rw [r1]; exact z2
        by_cases ze : f 112 s = f 112 t
        · have ze' : f (95 + 2 * s) 0 = f (95 + 2 * t) 0 := by rw [q1, r1]; exact ze
          have zt : (f (95 + 2 * s) 0 = f (95 + 2 * t) 0) = True := eq_true ze'
          by_cases hp : 0 ≤ b ∧ 0 ≤ a ∧ 0 ≤ k ∧ k ≤ nI n1 - b ∧ k ≤ nI n2 - a
          · obtain ⟨p1, p2, p3, p4, p5⟩ := hp
            obtain ⟨b', k', eb, ek, hbk⟩ := part_ex hn1 p1 p3 p4
            obtain ⟨a', k'', ea, ek2, hak⟩ := part_ex hn2 p2 p3 p5
            have ekk : k' = k'' := (nI_inj (by omega) (by omega)).mp (ek.symm.trans ek2)
            subst ekk
            subst eb ek ea
            have l1 : nI b' ≤ nI n1 := (nI_le_iff (by omega) (by omega)).mpr (by omega)
            have l2 : nI a' ≤ nI n2 := (nI_le_iff (by omega) (by omega)).mpr (by omega)
            have cp : s_cpy (e_gr 2 2 (e_ar 1 (e_gr 6 4 (e_lr 0)) (e_li 1))) (e_li 2) (e_gr 2 2 (e_ar 1 (e_gr 6 4 (e_lr 0)) (e_li 3))) (e_li 4) (e_li 5) [.ref 0, .int (nI s), .int (nI b'), .int (nI t), .int (nI a'), .int (nI k')] (memOf f) = some (.inl ([.ref 0, .int (nI s), .int (nI b'), .int (nI t), .int (nI a'), .int (nI k')], memOf (row f (96 + 2 * t) (put a' k' (fun j => f (96 + 2 * s) (b' + j)) (f (96 + 2 * t)))))) := s_cpy_of (s := 96 + 2 * s) (d := 96 + 2 * t) (by simp [e_gr, e_ar, e_lr, e_li, g_0_4, rr_sh f hs, gsh2 f hs]) rfl (by simp [e_gr, e_ar, e_lr, e_li, g_0_4, rr_sh f ht, gsh2 f ht]) rfl rfl (sh_she hs).2 (sh_she ht).2 (by omega) (by omega) (by omega) (by omega)
            obtain ⟨g1, h1⟩ : ∃ g1, g1 = row f (96 + 2 * t) (put a' k' (fun j => f (96 + 2 * s) (b' + j)) (f (96 + 2 * t))) := ⟨_, rfl⟩
            rw [← h1] at cp
            have E1 : ∀ x, x ≠ 96 + 2 * t → g1 x = f x := fun x hx => by rw [h1, row_ne _ _ hx]
            obtain ⟨g2, B1, B2, B3⟩ := X7_copy_W1 g1 hs (show b' + k' ≤ 40 by omega) (nI t) (nI a')
            obtain ⟨g3, C1, C2, C3, C4⟩ := X7_copy_W2 g2 ht (show a' + k' ≤ 40 by omega) (nI s) (nI b')
            have e114 := E1 114 (by omega)
            refine ⟨nI k', g1, g3, ?_, ?_, ?_⟩
            · simp [D_X6_copy, S_X6_copy, m_den, l0, Value.category, s_seq, s_if, s_st, s_ret, s_retz, s_retv, s_skip, s_sc, s_inc, s_call, e_c, e_li, e_lr, e_lj, e_un, e_bin, e_if, e_b, b_not, b_and, b_or, b_of, e_call, a_recv, a_snoc, a_nil, prI, prJ, prR, e_gi, e_gr, e_ai, e_ar, s_as, s_aop, s_pf, s_pfz, s_fop, l_set, l_ok, e_div, e_rem, e_len, s_tab, X6_isSheet, c1, c2, c3, c4, rc_0, g_0_4, rr_sh f hs, rcsh f hs, X2_isMissing f hs, z1', rr_sh f ht, rcsh f ht, X2_isMissing f ht, z2', gsh0 f hs, gsh0 f ht, zt, X2_hasPart f hs, X2_hasPart f ht, q3, r3, p1, p2, p3, p4, p5, l1, l2, cp]
            · have w1 : ¬ g1 112 s = 0 := by rw [E1 112 (by omega)]; exact z1
              have w2 : ¬ g1 112 t = 0 := by rw [E1 112 (by omega)]; exact z2
              have w3 : (g1 112 s = g1 112 t) = True := eq_true (by rw [E1 112 (by omega)]; exact ze)
              have w4 : g1 113 s = nI n1 := by rw [E1 113 (by omega)]; exact q4
              have w5 : g1 113 t = nI n2 := by rw [E1 113 (by omega)]; exact r4
              have n1' : ¬ nI b' < 0 := Int32.not_lt.mpr p1
              have n2' : ¬ nI a' < 0 := Int32.not_lt.mpr p2
              have n3' : ¬ nI k' < 0 := Int32.not_lt.mpr p3
              have n4' : ¬ nI n1 - nI b' < nI k' := Int32.not_lt.mpr p4
              have n5' : ¬ nI n2 - nI a' < nI k' := Int32.not_lt.mpr p5
              simp [D_X7_copy, S_X7_copy, m_den, l0, Value.category, s_seq, s_if, s_st, s_ret, s_retz, s_retv, s_skip, s_sc, s_inc, s_call, e_c, e_li, e_lr, e_lj, e_un, e_bin, e_if, e_b, b_not, b_and, b_or, b_of, e_call, a_recv, a_snoc, a_nil, prI, prJ, prR, e_gi, e_gr, e_ai, e_ar, s_as, s_aop, s_pf, s_pfz, s_fop, l_set, l_ok, e_div, e_rem, e_len, s_tab, X7_isOne, c1, c2, c3, c4, rc_103, g_103_17, g_103_18, rd_112 g1 hs, rd_112 g1 ht, rd_113 g1 hs, rd_113 g1 ht, w1, w2, w3, w4, w5, n1', n2', n3', n4', n5', B1, C1]
            · have G : ∀ x, x ≠ 96 + 2 * t → x ≠ 114 → x ≠ 115 → g3 x = f x := fun x d1 d2 d3 => by rw [C2 x d2, B2 x d3, E1 x d1]
              have hr : REL (row f 115 (g3 115)) := h.trial (fun x _ _ _ _ _ _ d7 => row_ne _ _ d7) (fun y _ => by rw [row_ne _ _ (by omega)])
              have H : ∀ x, x ≠ 115 → row f 115 (g3 115) x = f x := fun x hx => row_ne _ _ hx
              refine hr.sheet ht (fun j d1 d2 d3 d4 d5 => ?_) (fun u hu hne => ⟨?_, ?_, fun i hi => ?_⟩) ⟨⟨?_, ?_⟩, ⟨n2, hn2, ?_, ?_, ?_⟩, fun i hi => ?_⟩
              · by_cases d6 : j = 115
                · subst d6; rw [row_self]
                · rw [H j d6]; exact G j d2 d5 d6
              · rw [H 112 (by omega), G 112 (by omega) (by omega) (by omega)]
              · rw [H 113 (by omega), G 113 (by omega) (by omega) (by omega)]
              · rw [H 114 (by omega), C3 _ (by omega), B2 114 (by omega), e114]
              · rw [G _ (by omega) (by omega) (by omega), G 112 (by omega) (by omega) (by omega)]; exact r1
              · rw [G 112 (by omega) (by omega) (by omega)]; exact r2
              · rw [G _ (by omega) (by omega) (by omega)]; exact r3
              · rw [G 113 (by omega) (by omega) (by omega)]; exact r4
              · rw [G 112 (by omega) (by omega) (by omega)]; exact r5
              · have e96 : g3 (96 + 2 * t) = put a' k' (fun j => f (96 + 2 * s) (b' + j)) (f (96 + 2 * t)) := by rw [C2 _ (by omega), B2 _ (by omega), h1, row_self]
                rw [e96]
                by_cases d : a' ≤ i ∧ i < a' + k'
                · obtain ⟨j, rfl⟩ : ∃ j, i = a' + j := ⟨i - a', by omega⟩
                  rw [put_in _ _ (by omega), ← Nat.add_assoc, C4 j (by omega), B3 j (by omega), e114, q6 (b' + j) (by omega), Nat.add_assoc]
                · rw [put_out _ _ (by omega), C3 _ (by omega), B2 114 (by omega), e114]; exact r6 i hi
          · refine agr_find (j := 0) (v := -1000001) h ?_ (fun g hg => ?_)
            · have np : ¬ ((0 ≤ b ∧ 0 ≤ k ∧ b ≤ nI n1 ∧ k ≤ nI n1 - b) ∧ (0 ≤ a ∧ 0 ≤ k ∧ a ≤ nI n2 ∧ k ≤ nI n2 - a)) := fun q => hp ⟨q.1.1, q.2.1, q.1.2.1, q.1.2.2.2, q.2.2.2.2⟩
              by_cases np1 : 0 ≤ b ∧ 0 ≤ k ∧ b ≤ nI n1 ∧ k ≤ nI n1 - b
              · have np2 : ¬ (0 ≤ a ∧ 0 ≤ k ∧ a ≤ nI n2 ∧ k ≤ nI n2 - a) := fun q => np ⟨np1, q⟩
                have hp1 := X2_hasPart f hs b k
                rw [q3, if_pos np1] at hp1
                have hp2 := X2_hasPart f ht a k
                rw [r3, if_neg np2] at hp2
                simp [D_X6_copy, S_X6_copy, m_den, l0, Value.category, s_seq, s_if, s_st, s_ret, s_retz, s_retv, s_skip, s_sc, s_inc, s_call, e_c, e_li, e_lr, e_lj, e_un, e_bin, e_if, e_b, b_not, b_and, b_or, b_of, e_call, a_recv, a_snoc, a_nil, prI, prJ, prR, e_gi, e_gr, e_ai, e_ar, s_as, s_aop, s_pf, s_pfz, s_fop, l_set, l_ok, e_div, e_rem, e_len, s_tab, X6_isSheet, c1, c2, c3, c4, rc_0, g_0_4, rr_sh f hs, rcsh f hs, X2_isMissing f hs, z1', rr_sh f ht, rcsh f ht, X2_isMissing f ht, z2', gsh0 f hs, gsh0 f ht, zt, hp1, hp2, X6_fin_0]
              · have hp1 := X2_hasPart f hs b k
                rw [q3, if_neg np1] at hp1
                simp [D_X6_copy, S_X6_copy, m_den, l0, Value.category, s_seq, s_if, s_st, s_ret, s_retz, s_retv, s_skip, s_sc, s_inc, s_call, e_c, e_li, e_lr, e_lj, e_un, e_bin, e_if, e_b, b_not, b_and, b_or, b_of, e_call, a_recv, a_snoc, a_nil, prI, prJ, prR, e_gi, e_gr, e_ai, e_ar, s_as, s_aop, s_pf, s_pfz, s_fop, l_set, l_ok, e_div, e_rem, e_len, s_tab, X6_isSheet, c1, c2, c3, c4, rc_0, g_0_4, rr_sh f hs, rcsh f hs, X2_isMissing f hs, z1', rr_sh f ht, rcsh f ht, X2_isMissing f ht, z2', gsh0 f hs, gsh0 f ht, zt, hp1, X6_fin_0]
            · have w1 : ¬ g 112 s = 0 := by rw [hg.2.2.1]; exact z1
              have w2 : ¬ g 112 t = 0 := by rw [hg.2.2.1]; exact z2
              have w3 : (g 112 s = g 112 t) = True := eq_true (by rw [hg.2.2.1]; exact ze)
              have w4 : g 113 s = nI n1 := by rw [hg.2.2.2.1]; exact q4
              have w5 : g 113 t = nI n2 := by rw [hg.2.2.2.1]; exact r4
              by_cases m1 : b < 0
              · simp [D_X7_copy, S_X7_copy, m_den, l0, Value.category, s_seq, s_if, s_st, s_ret, s_retz, s_retv, s_skip, s_sc, s_inc, s_call, e_c, e_li, e_lr, e_lj, e_un, e_bin, e_if, e_b, b_not, b_and, b_or, b_of, e_call, a_recv, a_snoc, a_nil, prI, prJ, prR, e_gi, e_gr, e_ai, e_ar, s_as, s_aop, s_pf, s_pfz, s_fop, l_set, l_ok, e_div, e_rem, e_len, s_tab, X7_isOne, c1, c2, c3, c4, rc_103, g_103_17, g_103_18, rd_112 g hs, rd_112 g ht, rd_113 g hs, rd_113 g ht, w1, w2, w3, m1, X7_fin_0]
              · by_cases m2 : a < 0
                · simp [D_X7_copy, S_X7_copy, m_den, l0, Value.category, s_seq, s_if, s_st, s_ret, s_retz, s_retv, s_skip, s_sc, s_inc, s_call, e_c, e_li, e_lr, e_lj, e_un, e_bin, e_if, e_b, b_not, b_and, b_or, b_of, e_call, a_recv, a_snoc, a_nil, prI, prJ, prR, e_gi, e_gr, e_ai, e_ar, s_as, s_aop, s_pf, s_pfz, s_fop, l_set, l_ok, e_div, e_rem, e_len, s_tab, X7_isOne, c1, c2, c3, c4, rc_103, g_103_17, g_103_18, rd_112 g hs, rd_112 g ht, rd_113 g hs, rd_113 g ht, w1, w2, w3, m1, m2, X7_fin_0]
                · by_cases m3 : k < 0
                  · simp [D_X7_copy, S_X7_copy, m_den, l0, Value.category, s_seq, s_if, s_st, s_ret, s_retz, s_retv, s_skip, s_sc, s_inc, s_call, e_c, e_li, e_lr, e_lj, e_un, e_bin, e_if, e_b, b_not, b_and, b_or, b_of, e_call, a_recv, a_snoc, a_nil, prI, prJ, prR, e_gi, e_gr, e_ai, e_ar, s_as, s_aop, s_pf, s_pfz, s_fop, l_set, l_ok, e_div, e_rem, e_len, s_tab, X7_isOne, c1, c2, c3, c4, rc_103, g_103_17, g_103_18, rd_112 g hs, rd_112 g ht, rd_113 g hs, rd_113 g ht, w1, w2, w3, m1, m2, m3, X7_fin_0]
                  · by_cases m4 : nI n1 - b < k
                    · simp [D_X7_copy, S_X7_copy, m_den, l0, Value.category, s_seq, s_if, s_st, s_ret, s_retz, s_retv, s_skip, s_sc, s_inc, s_call, e_c, e_li, e_lr, e_lj, e_un, e_bin, e_if, e_b, b_not, b_and, b_or, b_of, e_call, a_recv, a_snoc, a_nil, prI, prJ, prR, e_gi, e_gr, e_ai, e_ar, s_as, s_aop, s_pf, s_pfz, s_fop, l_set, l_ok, e_div, e_rem, e_len, s_tab, X7_isOne, c1, c2, c3, c4, rc_103, g_103_17, g_103_18, rd_112 g hs, rd_112 g ht, rd_113 g hs, rd_113 g ht, w1, w2, w3, w4, m1, m2, m3, m4, X7_fin_0]
                    · have m5 : nI n2 - a < k := Int32.not_le.mp (fun q => hp ⟨Int32.not_lt.mp m1, Int32.not_lt.mp m2, Int32.not_lt.mp m3, Int32.not_lt.mp m4, q⟩)
                      simp [D_X7_copy, S_X7_copy, m_den, l0, Value.category, s_seq, s_if, s_st, s_ret, s_retz, s_retv, s_skip, s_sc, s_inc, s_call, e_c, e_li, e_lr, e_lj, e_un, e_bin, e_if, e_b, b_not, b_and, b_or, b_of, e_call, a_recv, a_snoc, a_nil, prI, prJ, prR, e_gi, e_gr, e_ai, e_ar, s_as, s_aop, s_pf, s_pfz, s_fop, l_set, l_ok, e_div, e_rem, e_len, s_tab, X7_isOne, c1, c2, c3, c4, rc_103, g_103_17, g_103_18, rd_112 g hs, rd_112 g ht, rd_113 g hs, rd_113 g ht, w1, w2, w3, w4, w5, m1, m2, m3, m4, m5, X7_fin_0]
        · have ze' : ¬ f (95 + 2 * s) 0 = f (95 + 2 * t) 0 := by rw [q1, r1]; exact ze
          refine agr_find (j := 2) (v := -1000003) h ?_ (fun g hg => ?_)
          · simp [D_X6_copy, S_X6_copy, m_den, l0, Value.category, s_seq, s_if, s_st, s_ret, s_retz, s_retv, s_skip, s_sc, s_inc, s_call, e_c, e_li, e_lr, e_lj, e_un, e_bin, e_if, e_b, b_not, b_and, b_or, b_of, e_call, a_recv, a_snoc, a_nil, prI, prJ, prR, e_gi, e_gr, e_ai, e_ar, s_as, s_aop, s_pf, s_pfz, s_fop, l_set, l_ok, e_div, e_rem, e_len, s_tab, X6_isSheet, c1, c2, c3, c4, rc_0, g_0_4, rr_sh f hs, rcsh f hs, X2_isMissing f hs, z1', rr_sh f ht, rcsh f ht, X2_isMissing f ht, z2', gsh0 f hs, gsh0 f ht, ze', X6_fin_2]
          · have w1 : ¬ g 112 s = 0 := by rw [hg.2.2.1]; exact z1
            have w2 : ¬ g 112 t = 0 := by rw [hg.2.2.1]; exact z2
            have w3 : ¬ g 112 s = g 112 t := by rw [hg.2.2.1]; exact ze
            simp [D_X7_copy, S_X7_copy, m_den, l0, Value.category, s_seq, s_if, s_st, s_ret, s_retz, s_retv, s_skip, s_sc, s_inc, s_call, e_c, e_li, e_lr, e_lj, e_un, e_bin, e_if, e_b, b_not, b_and, b_or, b_of, e_call, a_recv, a_snoc, a_nil, prI, prJ, prR, e_gi, e_gr, e_ai, e_ar, s_as, s_aop, s_pf, s_pfz, s_fop, l_set, l_ok, e_div, e_rem, e_len, s_tab, X7_isOne, c1, c2, c3, c4, rc_103, g_103_17, rd_112 g hs, rd_112 g ht, w1, w2, w3, X7_fin_2]
  · exact agr_find h (X6_copy_no0 f hst) (fun g _ => X7_copy_no0 g hst)
