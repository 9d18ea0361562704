/-! the first calls: roof, wind, book, seed; findings -/
theorem X6_fin_0 (f : FN) : D_X6_finding [.ref 0, .int 0] (memOf f) = some (.int (-1000001), memOf (row f 81 (upd (f 81) 0 (f 81 0 + 1)))) := by
  have h := X6_finding f (j := 0) (by omega)
  have e1 : nI 0 = (0 : Int32) := rfl
  have e2 : (-1000001 : Int32) - 0 = -1000001 := by decide
  rw [e1, e2] at h
  exact h
theorem X7_fin_0 (f : FN) : D_X7_finds [.ref 103, .int (-1000001)] (memOf f) = some (.int (-1000001), memOf (row f 107 (upd (f 107) 0 (f 107 0 + 1)))) := X7_finds f (j := 0) (by omega) (by decide)
theorem X6_fin_1 (f : FN) : D_X6_finding [.ref 0, .int 1] (memOf f) = some (.int (-1000002), memOf (row f 81 (upd (f 81) 1 (f 81 1 + 1)))) := by
  have h := X6_finding f (j := 1) (by omega)
  have e1 : nI 1 = (1 : Int32) := rfl
  have e2 : (-1000001 : Int32) - 1 = -1000002 := by decide
  rw [e1, e2] at h
  exact h
theorem X7_fin_1 (f : FN) : D_X7_finds [.ref 103, .int (-1000002)] (memOf f) = some (.int (-1000002), memOf (row f 107 (upd (f 107) 1 (f 107 1 + 1)))) := X7_finds f (j := 1) (by omega) (by decide)
theorem X6_fin_2 (f : FN) : D_X6_finding [.ref 0, .int 2] (memOf f) = some (.int (-1000003), memOf (row f 81 (upd (f 81) 2 (f 81 2 + 1)))) := by
  have h := X6_finding f (j := 2) (by omega)
  have e1 : nI 2 = (2 : Int32) := rfl
  have e2 : (-1000001 : Int32) - 2 = -1000003 := by decide
  rw [e1, e2] at h
  exact h
theorem X7_fin_2 (f : FN) : D_X7_finds [.ref 103, .int (-1000003)] (memOf f) = some (.int (-1000003), memOf (row f 107 (upd (f 107) 2 (f 107 2 + 1)))) := X7_finds f (j := 2) (by omega) (by decide)
theorem X6_fin_3 (f : FN) : D_X6_finding [.ref 0, .int 3] (memOf f) = some (.int (-1000004), memOf (row f 81 (upd (f 81) 3 (f 81 3 + 1)))) := by
  have h := X6_finding f (j := 3) (by omega)
  have e1 : nI 3 = (3 : Int32) := rfl
  have e2 : (-1000001 : Int32) - 3 = -1000004 := by decide
  rw [e1, e2] at h
  exact h
theorem X7_fin_3 (f : FN) : D_X7_finds [.ref 103, .int (-1000004)] (memOf f) = some (.int (-1000004), memOf (row f 107 (upd (f 107) 3 (f 107 3 + 1)))) := X7_finds f (j := 3) (by omega) (by decide)
theorem X6_fin_4 (f : FN) : D_X6_finding [.ref 0, .int 4] (memOf f) = some (.int (-1000005), memOf (row f 81 (upd (f 81) 4 (f 81 4 + 1)))) := by
  have h := X6_finding f (j := 4) (by omega)
  have e1 : nI 4 = (4 : Int32) := rfl
  have e2 : (-1000001 : Int32) - 4 = -1000005 := by decide
  rw [e1, e2] at h
  exact h
theorem X7_fin_4 (f : FN) : D_X7_finds [.ref 103, .int (-1000005)] (memOf f) = some (.int (-1000005), memOf (row f 107 (upd (f 107) 4 (f 107 4 + 1)))) := X7_finds f (j := 4) (by omega) (by decide)
theorem X6_fin_5 (f : FN) : D_X6_finding [.ref 0, .int 5] (memOf f) = some (.int (-1000006), memOf (row f 81 (upd (f 81) 5 (f 81 5 + 1)))) := by
  have h := X6_finding f (j := 5) (by omega)
  have e1 : nI 5 = (5 : Int32) := rfl
  have e2 : (-1000001 : Int32) - 5 = -1000006 := by decide
  rw [e1, e2] at h
  exact h
theorem X7_fin_5 (f : FN) : D_X7_finds [.ref 103, .int (-1000006)] (memOf f) = some (.int (-1000006), memOf (row f 107 (upd (f 107) 5 (f 107 5 + 1)))) := X7_finds f (j := 5) (by omega) (by decide)
theorem X6_fin_6 (f : FN) : D_X6_finding [.ref 0, .int 6] (memOf f) = some (.int (-1000007), memOf (row f 81 (upd (f 81) 6 (f 81 6 + 1)))) := by
  have h := X6_finding f (j := 6) (by omega)
  have e1 : nI 6 = (6 : Int32) := rfl
  have e2 : (-1000001 : Int32) - 6 = -1000007 := by decide
  rw [e1, e2] at h
  exact h
theorem X7_fin_6 (f : FN) : D_X7_finds [.ref 103, .int (-1000007)] (memOf f) = some (.int (-1000007), memOf (row f 107 (upd (f 107) 6 (f 107 6 + 1)))) := X7_finds f (j := 6) (by omega) (by decide)
theorem agr_find {DX DR : MDen} {args : List Value} {f : FN} {j : Nat} {v : Int32} (h : REL f) (hX : DX (.ref 0 :: args) (memOf f) = some (.int v, memOf (row f 81 (upd (f 81) j (f 81 j + 1))))) (hR : ∀ g : FN, (g 104 = f 104 ∧ g 103 = f 103 ∧ g 112 = f 112 ∧ g 113 = f 113 ∧ g 114 = f 114) → DR (.ref 103 :: args) (memOf g) = some (.int v, memOf (row g 107 (upd (g 107) j (g 107 j + 1))))) : AGR DX DR args f := by
  refine ⟨v, _, fnd f j, hX, ?_, h.find j⟩
  rw [hR _ ⟨row_ne _ _ (by omega), row_ne _ _ (by omega), row_ne _ _ (by omega), row_ne _ _ (by omega), row_ne _ _ (by omega)⟩]
  unfold fnd
  rw [row_ne _ _ (show (107 : Nat) ≠ 81 by omega)]
theorem in_ex {x : Int32} {n : Nat} (h : 0 ≤ x ∧ x ≤ Int32.ofNat n) (hn : n < 2 ^ 31) : ∃ k, k < n + 1 ∧ x = nI k := by
  obtain ⟨k, hk, e⟩ := nI_ex (x := x) (n := n) h.1 h.2 hn
  exact ⟨k, by omega, e⟩
theorem le_lit {k n : Nat} (h : k ≤ n) (hn : n < 2 ^ 31) : nI k ≤ Int32.ofNat n := (nI_le_iff (a := k) (b := n) (by omega) hn).mpr h
/-! roof -/
theorem X6_roof_ok (f : FN) {n : Nat} (hn : n < 36) {o : Int32} (h1 : -1 ≤ o) (h2 : o ≤ 5) : D_X6_roof [.ref 0, .int (nI n), .int o] (memOf f) = some (.int (f 2 n), memOf (row f 2 (upd (f 2) n o))) := by
  have e1 : (0 : Int32) ≤ nI n := nI_pos' (by omega)
  have e2 : nI n ≤ (35 : Int32) := le_lit (n := 35) (by omega) (by omega)
  simp [D_X6_roof, S_X6_roof, m_den, l0, Value.category, s_seq, s_if, s_st, s_ret, s_retz, s_retv, s_skip, s_sc, s_inc, s_call, e_c, e_li, e_lr, e_lj, e_un, e_bin, e_if, e_b, b_not, b_and, b_or, b_of, e_call, a_recv, a_snoc, a_nil, prI, prJ, prR, e_gi, e_gr, e_ai, e_ar, s_as, s_aop, s_pf, s_pfz, s_fop, l_set, l_ok, e_div, e_rem, e_len, s_tab, X6_isCell, X6_isIn, e1, e2, h1, h2, g_0_0, g_1_3, rd_2 f hn, wr_2 f hn]
theorem X6_roof_no (f : FN) {c o : Int32} (h : ¬ ((0 ≤ c ∧ c ≤ 35) ∧ -1 ≤ o ∧ o ≤ 5)) : D_X6_roof [.ref 0, .int c, .int o] (memOf f) = some (.int (-1000001), memOf (row f 81 (upd (f 81) 0 (f 81 0 + 1)))) := by
  by_cases a1 : 0 ≤ c
  · by_cases a2 : c ≤ 35
    · by_cases a3 : -1 ≤ o
      · have a4 : ¬ o ≤ 5 := fun q => h ⟨⟨a1, a2⟩, a3, q⟩
        simp [D_X6_roof, S_X6_roof, m_den, l0, Value.category, s_seq, s_if, s_st, s_ret, s_retz, s_retv, s_skip, s_sc, s_inc, s_call, e_c, e_li, e_lr, e_lj, e_un, e_bin, e_if, e_b, b_not, b_and, b_or, b_of, e_call, a_recv, a_snoc, a_nil, prI, prJ, prR, e_gi, e_gr, e_ai, e_ar, s_as, s_aop, s_pf, s_pfz, s_fop, l_set, l_ok, e_div, e_rem, e_len, s_tab, X6_isCell, X6_isIn, a1, a2, a3, a4, rc_0, X6_fin_0]
      · simp [D_X6_roof, S_X6_roof, m_den, l0, Value.category, s_seq, s_if, s_st, s_ret, s_retz, s_retv, s_skip, s_sc, s_inc, s_call, e_c, e_li, e_lr, e_lj, e_un, e_bin, e_if, e_b, b_not, b_and, b_or, b_of, e_call, a_recv, a_snoc, a_nil, prI, prJ, prR, e_gi, e_gr, e_ai, e_ar, s_as, s_aop, s_pf, s_pfz, s_fop, l_set, l_ok, e_div, e_rem, e_len, s_tab, X6_isCell, X6_isIn, a1, a2, a3, rc_0, X6_fin_0]
    · simp [D_X6_roof, S_X6_roof, m_den, l0, Value.category, s_seq, s_if, s_st, s_ret, s_retz, s_retv, s_skip, s_sc, s_inc, s_call, e_c, e_li, e_lr, e_lj, e_un, e_bin, e_if, e_b, b_not, b_and, b_or, b_of, e_call, a_recv, a_snoc, a_nil, prI, prJ, prR, e_gi, e_gr, e_ai, e_ar, s_as, s_aop, s_pf, s_pfz, s_fop, l_set, l_ok, e_div, e_rem, e_len, s_tab, X6_isCell, X6_isIn, a1, a2, rc_0, X6_fin_0]
  · simp [D_X6_roof, S_X6_roof, m_den, l0, Value.category, s_seq, s_if, s_st, s_ret, s_retz, s_retv, s_skip, s_sc, s_inc, s_call, e_c, e_li, e_lr, e_lj, e_un, e_bin, e_if, e_b, b_not, b_and, b_or, b_of, e_call, a_recv, a_snoc, a_nil, prI, prJ, prR, e_gi, e_gr, e_ai, e_ar, s_as, s_aop, s_pf, s_pfz, s_fop, l_set, l_ok, e_div, e_rem, e_len, s_tab, X6_isCell, X6_isIn, a1, rc_0, X6_fin_0]
theorem X7_roof_ok (f : FN) {n : Nat} (hn : n < 36) {o : Int32} (h1 : -1 ≤ o) (h2 : o ≤ 5) : D_X7_roof [.ref 103, .int (nI n), .int o] (memOf f) = some (.int (f 104 (3 + n)), memOf (row f 104 (upd (f 104) (3 + n) o))) := by
  have e1 : (0 : Int32) ≤ nI n := nI_pos' (by omega)
  have e2 : nI n ≤ (35 : Int32) := le_lit (n := 35) (by omega) (by omega)
  have e3 : (3 : Int32) + nI n = nI (3 + n) := nI_a 3 n
  simp [D_X7_roof, S_X7_roof, m_den, l0, Value.category, s_seq, s_if, s_st, s_ret, s_retz, s_retv, s_skip, s_sc, s_inc, s_call, e_c, e_li, e_lr, e_lj, e_un, e_bin, e_if, e_b, b_not, b_and, b_or, b_of, e_call, a_recv, a_snoc, a_nil, prI, prJ, prR, e_gi, e_gr, e_ai, e_ar, s_as, s_aop, s_pf, s_pfz, s_fop, l_set, l_ok, e_div, e_rem, e_len, s_tab, X7_isCell, X7_in, j_le_5, j_ge_m1, e1, e2, h1, h2, e3, g_103_0, rd_104 f (show 3 + n < 735 by omega), wr_104 f (show 3 + n < 735 by omega)]
theorem X7_roof_no (f : FN) {c o : Int32} (h : ¬ ((0 ≤ c ∧ c ≤ 35) ∧ -1 ≤ o ∧ o ≤ 5)) : D_X7_roof [.ref 103, .int c, .int o] (memOf f) = some (.int (-1000001), memOf (row f 107 (upd (f 107) 0 (f 107 0 + 1)))) := by
  by_cases a1 : 0 ≤ c
  · by_cases a2 : c ≤ 35
    · by_cases a3 : -1 ≤ o
      · have a4 : ¬ o ≤ 5 := fun q => h ⟨⟨a1, a2⟩, a3, q⟩
        simp [D_X7_roof, S_X7_roof, m_den, l0, Value.category, s_seq, s_if, s_st, s_ret, s_retz, s_retv, s_skip, s_sc, s_inc, s_call, e_c, e_li, e_lr, e_lj, e_un, e_bin, e_if, e_b, b_not, b_and, b_or, b_of, e_call, a_recv, a_snoc, a_nil, prI, prJ, prR, e_gi, e_gr, e_ai, e_ar, s_as, s_aop, s_pf, s_pfz, s_fop, l_set, l_ok, e_div, e_rem, e_len, s_tab, X7_isCell, X7_in, j_le_5, j_ge_m1, a1, a2, a3, a4, rc_103, X7_fin_0]
      · simp [D_X7_roof, S_X7_roof, m_den, l0, Value.category, s_seq, s_if, s_st, s_ret, s_retz, s_retv, s_skip, s_sc, s_inc, s_call, e_c, e_li, e_lr, e_lj, e_un, e_bin, e_if, e_b, b_not, b_and, b_or, b_of, e_call, a_recv, a_snoc, a_nil, prI, prJ, prR, e_gi, e_gr, e_ai, e_ar, s_as, s_aop, s_pf, s_pfz, s_fop, l_set, l_ok, e_div, e_rem, e_len, s_tab, X7_isCell, X7_in, j_le_5, j_ge_m1, a1, a2, a3, rc_103, X7_fin_0]
    · simp [D_X7_roof, S_X7_roof, m_den, l0, Value.category, s_seq, s_if, s_st, s_ret, s_retz, s_retv, s_skip, s_sc, s_inc, s_call, e_c, e_li, e_lr, e_lj, e_un, e_bin, e_if, e_b, b_not, b_and, b_or, b_of, e_call, a_recv, a_snoc, a_nil, prI, prJ, prR, e_gi, e_gr, e_ai, e_ar, s_as, s_aop, s_pf, s_pfz, s_fop, l_set, l_ok, e_div, e_rem, e_len, s_tab, X7_isCell, X7_in, j_le_5, j_ge_m1, a1, a2, rc_103, X7_fin_0]
  · simp [D_X7_roof, S_X7_roof, m_den, l0, Value.category, s_seq, s_if, s_st, s_ret, s_retz, s_retv, s_skip, s_sc, s_inc, s_call, e_c, e_li, e_lr, e_lj, e_un, e_bin, e_if, e_b, b_not, b_and, b_or, b_of, e_call, a_recv, a_snoc, a_nil, prI, prJ, prR, e_gi, e_gr, e_ai, e_ar, s_as, s_aop, s_pf, s_pfz, s_fop, l_set, l_ok, e_div, e_rem, e_len, s_tab, X7_isCell, X7_in, j_le_5, j_ge_m1, a1, rc_103, X7_fin_0]
theorem agr_roof {f : FN} (h : REL f) (c o : Int32) : AGR D_X6_roof D_X7_roof [.int c, .int o] f := by
  by_cases hc : (0 ≤ c ∧ c ≤ 35) ∧ -1 ≤ o ∧ o ≤ 5
  · obtain ⟨n, hn, rfl⟩ := in_ex (n := 35) hc.1 (by omega)
    obtain ⟨⟨m, hT, hV⟩, -⟩ := id h
    have e : f 2 n = f 104 (3 + n) := (hT.2.1 n hn).symm
    refine ⟨f 2 n, _, row (row f 2 (upd (f 2) n o)) 104 (upd (f 104) (3 + n) o), X6_roof_ok f hn hc.2.1 hc.2.2, ?_, ?_⟩
    · rw [X7_roof_ok _ hn hc.2.1 hc.2.2, row_ne _ _ (by omega), e]
    · have e2 : row (row f 2 (upd (f 2) n o)) 104 (upd (f 104) (3 + n) o) 104 = upd (f 104) (3 + n) o := row_self _ _ _
      refine h.town (m := m) (fun j hj => ?_) ⟨?_, ?_⟩ ?_ ?_
      · rw [row_ne _ _ (by omega), row_ne _ _ (by omega)]
      · rw [row_ne _ _ (by omega), row_ne _ _ (by omega)]
      · rw [row_ne _ _ (by omega), row_ne _ _ (by omega)]
      · rw [e2]
        exact (hT.plain (x := 2) (k := n) (i := 3 + n) (v := o) (by omega)).congr (fun j h1 h2 => row_ne _ _ (by omega))
      · rw [e2]
        obtain ⟨-, v1, v2, v3, v4⟩ := id hV
        have hm := hT.1.2.2.2.2
        refine hV.sig hm (fun i hi => upd_ne _ _ (by omega)) (fun c hc2 => ?_) (fun c hc => ?_) (fun c hc => ?_) (fun k hk j hj => ?_)
        · by_cases ec : c = n
          · subst ec
            rw [upd_self]
            by_cases h0 : 0 ≤ o
            · obtain ⟨k, hk, e3⟩ := in_ex (n := 5) ⟨h0, hc.2.2⟩ (by omega)
              exact Or.inr ⟨k, hk, e3⟩
            · left
              have h3 := Int32.le_iff_toInt_le.mp hc.2.1
              have h4 := Int32.lt_iff_toInt_lt.mp (Int32.not_le.mp h0)
              apply Int32.toInt_inj.mp
              have e5 : (-1 : Int32).toInt = -1 := by decide
              have e6 : (0 : Int32).toInt = 0 := by decide
              rw [e5] at h3 ⊢
              rw [e6] at h4
              omega
          · rw [upd_ne _ _ (by omega)]; exact v1 c hc2
        · rw [upd_ne _ _ (by omega)]; exact v2 c hc
        · rw [upd_ne _ _ (by omega)]; exact v3 c hc
        · rw [upd_ne _ _ (by omega)]; exact v4 k hk j hj
  · exact agr_find h (X6_roof_no f hc) (fun g _ => X7_roof_no g hc)
