/-! judge agrees -/
theorem X6_judge_no (f : FN) {s : Int32} (h : ¬ (0 ≤ s ∧ s ≤ 3)) : D_X6_judge [.ref 0, .int s] (memOf f) = some (.int (-1000001), memOf (row f 81 (upd (f 81) 0 (f 81 0 + 1)))) := by
  simp [D_X6_judge, S_X6_judge, m_den, l0, Value.category, s_seq, s_if, s_st, s_ret, s_retz, s_retv, s_skip, s_sc, s_inc, s_call, e_c, e_li, e_lr, e_lj, e_un, e_bin, e_if, e_b, b_not, b_and, b_or, b_of, e_call, a_recv, a_snoc, a_nil, prI, prJ, prR, e_gi, e_gr, e_ai, e_ar, s_as, s_aop, s_pf, s_pfz, s_fop, l_set, l_ok, e_div, e_rem, e_len, s_tab, X6_isSheet, h, rc_0, X6_fin_0]
theorem X7_judge_no (f : FN) {s : Int32} (h : ¬ (0 ≤ s ∧ s ≤ 3)) : D_X7_judge [.ref 103, .int s] (memOf f) = some (.int (-1000001), memOf (row f 107 (upd (f 107) 0 (f 107 0 + 1)))) := by
  simp [D_X7_judge, S_X7_judge, m_den, l0, Value.category, s_seq, s_if, s_st, s_ret, s_retz, s_retv, s_skip, s_sc, s_inc, s_call, e_c, e_li, e_lr, e_lj, e_un, e_bin, e_if, e_b, b_not, b_and, b_or, b_of, e_call, a_recv, a_snoc, a_nil, prI, prJ, prR, e_gi, e_gr, e_ai, e_ar, s_as, s_aop, s_pf, s_pfz, s_fop, l_set, l_ok, e_div, e_rem, e_len, s_tab, rc_103, X7_wrong_out f h, X7_fin_0]
theorem agr_judge {f : FN} (h : REL f) (x : Int32) : AGR D_X6_judge D_X7_judge [.int x] f := by
  by_cases hs : 0 ≤ x ∧ x ≤ 3
  · obtain ⟨s, hs4, rfl⟩ := in_ex (n := 3) hs (by omega)
    obtain ⟨a1, a2⟩ := hs
    obtain ⟨⟨q1, q2⟩, ⟨n, hn, q3, q4, q5⟩, q6⟩ := h.sh hs4
    by_cases b : f 112 s = 0
    · have b' := q1.trans b
      refine agr_find (j := 5) (v := -1000006) h ?_ (fun g hg => ?_)
      · simp [D_X6_judge, S_X6_judge, m_den, l0, Value.category, s_seq, s_if, s_st, s_ret, s_retz, s_retv, s_skip, s_sc, s_inc, s_call, e_c, e_li, e_lr, e_lj, e_un, e_bin, e_if, e_b, b_not, b_and, b_or, b_of, e_call, a_recv, a_snoc, a_nil, prI, prJ, prR, e_gi, e_gr, e_ai, e_ar, s_as, s_aop, s_pf, s_pfz, s_fop, l_set, l_ok, e_div, e_rem, e_len, s_tab, X6_isSheet, a1, a2, rc_0, g_0_4, rr_sh f hs4, rcsh f hs4, X2_isMissing f hs4, b', X6_fin_5]
      · have b2 : g 112 s = 0 := by rw [hg.2.2.1]; exact b
        simp [D_X7_judge, S_X7_judge, m_den, l0, Value.category, s_seq, s_if, s_st, s_ret, s_retz, s_retv, s_skip, s_sc, s_inc, s_call, e_c, e_li, e_lr, e_lj, e_un, e_bin, e_if, e_b, b_not, b_and, b_or, b_of, e_call, a_recv, a_snoc, a_nil, prI, prJ, prR, e_gi, e_gr, e_ai, e_ar, s_as, s_aop, s_pf, s_pfz, s_fop, l_set, l_ok, e_div, e_rem, e_len, s_tab, rc_103, X7_wrong_in g hs4, b2, X7_fin_5]
    · have b' : ¬ f (95 + 2 * s) 0 = 0 := by rw [q1]; exact b
      obtain ⟨⟨m, hT, hV⟩, -⟩ := id h
      obtain ⟨TRS, ro, wd, Q, bo, hh, w⟩ := TW.ex hT hV
      obtain ⟨⟨b1, b2, b3, b4⟩, hS, sp, ro', wd', bk', tk, bn⟩ := id w
      have m8 := hS.1.2
      have hAl := w.A_le
      have hq := hor (h := hh) (n := n) b3 (by omega)
      by_cases hN : hh + n ≤ 9999
      · obtain ⟨g1, A1, A2, A3⟩ := X6_playByHour f w hn hN
        obtain ⟨D, eD⟩ : ∃ D : Nat → Int32, D = fun i => nI (csI m (fun k => nS TRS wd hh Q i k)) := ⟨_, rfl⟩
        have e104 := A2 104 (by omega) (by omega)
        obtain ⟨p1, U1, U2, U3⟩ := X7_puts g1
        have p104 : p1 104 = f 104 := by rw [U2 104 (by omega), e104]
        have hS1 : HSt (p1 104) m TRS ro wd := by rw [p104]; exact hS
        have P0 : PL p1 m TRS ro wd hh Q 0 p1 := PL.zero (by rw [p104]; exact b2) (fun k hk => by rw [p104]; exact (sp k hk).1)
        have G : ∀ x, ¬ (82 ≤ x ∧ x ≤ 89) → x ≠ 93 → x ≠ 106 → p1 x = f x := fun x c1 c2 c3 => by rw [U2 x c3, A2 x c1 c2]
        have rN : ∀ i, i < 40 → gm_rd (memOf g1) (96 + 2 * s) (nI i) = some (f (96 + 2 * s) i) := fun i hi => by rw [rdn g1 hs4 hi, A2 _ (by omega) (by omega)]
        have rD : ∀ i, i < n → gm_rd (memOf g1) 93 (nI i) = some (D i) := fun i hi => by rw [rd_93 g1 (show i < 40 by omega), A3 i hi, eD]
        -- the class's loop
        have cb : ∀ i, i < n → WB_X6_judge_1 [.ref 0, .int (nI s), .int (nI n), .int (nI i)] (memOf g1) = some (true, memOf g1) := fun i hi => by
          have e : nI i < nI n := (nI_lt_iff (by omega) (by omega)).mpr hi
          simp [WB_X6_judge_1, m_den, l0, Value.category, s_seq, s_if, s_st, s_ret, s_retz, s_retv, s_skip, s_sc, s_inc, s_call, e_c, e_li, e_lr, e_lj, e_un, e_bin, e_if, e_b, b_not, b_and, b_or, b_of, e_call, a_recv, a_snoc, a_nil, prI, prJ, prR, e_gi, e_gr, e_ai, e_ar, s_as, s_aop, s_pf, s_pfz, s_fop, l_set, l_ok, e_div, e_rem, e_len, s_tab, e]
        have cs : ∀ i, i < n → f (96 + 2 * s) i = D i → WS_X6_judge_1 [.ref 0, .int (nI s), .int (nI n), .int (nI i)] (memOf g1) = some (.inl ([.ref 0, .int (nI s), .int (nI n), .int (nI (i + 1))], memOf g1)) := fun i hi e => by
          have r1 := rN i (by omega)
          rw [e] at r1
          simp [WS_X6_judge_1, m_den, l0, Value.category, s_seq, s_if, s_st, s_ret, s_retz, s_retv, s_skip, s_sc, s_inc, s_call, e_c, e_li, e_lr, e_lj, e_un, e_bin, e_if, e_b, b_not, b_and, b_or, b_of, e_call, a_recv, a_snoc, a_nil, prI, prJ, prR, e_gi, e_gr, e_ai, e_ar, s_as, s_aop, s_pf, s_pfz, s_fop, l_set, l_ok, e_div, e_rem, e_len, s_tab, g_0_4, rr_sh g1 hs4, gsh2 g1 hs4, r1, g_0_11, rD i hi, nI_next]
        -- the reference's loop
        have rr : ∀ g j, j < n → PL p1 m TRS ro wd hh Q j g → ∃ g', WB_X7_judge_1 [.ref 103, .int (nI s), .int 0, .int (nI j)] (memOf g) = some (decide (f (96 + 2 * s) j = D j), memOf g') ∧ PL p1 m TRS ro wd hh Q (j + 1) g' := fun g j hj hP => by
          obtain ⟨g', H1, H2⟩ := X7_hour p1 g hS1 hP hAl (by omega)
          refine ⟨g', ?_, H2⟩
          have e : nI j < nI n := (nI_lt_iff (by omega) (by omega)).mpr hj
          have f13 : g 113 s = nI n := by rw [hP.1 113 (by omega) (by omega) (by omega) (by omega), G 113 (by omega) (by omega) (by omega)]; exact q4
          have f14 : g 114 (40 * s + j) = f (96 + 2 * s) j := by rw [hP.1 114 (by omega) (by omega) (by omega) (by omega), G 114 (by omega) (by omega) (by omega)]; exact (q6 j (by omega)).symm
          have eDj : nI (csI m (fun k => nS TRS wd hh Q j k)) = D j := by rw [eD]
          rw [eDj] at H1
          simp [WB_X7_judge_1, m_den, l0, Value.category, s_seq, s_if, s_st, s_ret, s_retz, s_retv, s_skip, s_sc, s_inc, s_call, e_c, e_li, e_lr, e_lj, e_un, e_bin, e_if, e_b, b_not, b_and, b_or, b_of, e_call, a_recv, a_snoc, a_nil, prI, prJ, prR, e_gi, e_gr, e_ai, e_ar, s_as, s_aop, s_pf, s_pfz, s_fop, l_set, l_ok, e_div, e_rem, e_len, s_tab, g_103_18, g_103_19, rd_113 g hs4, f13, e, i40, rd_114 g (show 40 * s + j < 160 by omega), f14, rc_103, H1]
        have rend : ∀ g, PL p1 m TRS ro wd hh Q n g → WB_X7_judge_1 [.ref 103, .int (nI s), .int 0, .int (nI n)] (memOf g) = some (false, memOf g) := fun g hP => by
          have f13 : g 113 s = nI n := by rw [hP.1 113 (by omega) (by omega) (by omega) (by omega), G 113 (by omega) (by omega) (by omega)]; exact q4
          have e : ¬ nI n < nI n := Int32.lt_irrefl
          simp [WB_X7_judge_1, m_den, l0, Value.category, s_seq, s_if, s_st, s_ret, s_retz, s_retv, s_skip, s_sc, s_inc, s_call, e_c, e_li, e_lr, e_lj, e_un, e_bin, e_if, e_b, b_not, b_and, b_or, b_of, e_call, a_recv, a_snoc, a_nil, prI, prJ, prR, e_gi, e_gr, e_ai, e_ar, s_as, s_aop, s_pf, s_pfz, s_fop, l_set, l_ok, e_div, e_rem, e_len, s_tab, g_103_18, rd_113 g hs4, f13, e]
        have fin : ∀ K, K ≤ n → (∀ j, j < K → f (96 + 2 * s) j = D j) → (K < n → ¬ f (96 + 2 * s) K = D K) → ∃ p3, D_X7_judge [.ref 103, .int (nI s)] (memOf g1) = some (.int (if K = n then 0 else 1 + nI K), memOf p3) ∧ REL p3 := fun K hK hlt hne => by
          obtain ⟨p2, R1, j', R2⟩ := while_relc (b := WB_X7_judge_1) (s := WS_X7_judge_1) (fun j => [.ref 103, .int (nI s), .int 0, .int (nI j)]) (fun j g => PL p1 m TRS ro wd hh Q j g) (fun j g => PL p1 m TRS ro wd hh Q (j + 1) g) (fun g => ∃ j', PL p1 m TRS ro wd hh Q j' g) K (by unfold FU; omega) (fun j g hj hI => by
            obtain ⟨g', H1, H2⟩ := rr g j (by omega) hI
            rw [decide_eq_true (hlt j hj)] at H1
            exact ⟨g', H1, H2⟩) (fun j g hj hI => ⟨g, by simp [WS_X7_judge_1, s_inc, l_set, l_ok, Value.category, nI_next], hI⟩) (fun g hI => by
            by_cases c : K = n
            · rw [c] at hI ⊢
              exact ⟨g, rend g hI, _, hI⟩
            · obtain ⟨g', H1, H2⟩ := rr g K (by omega) hI
              rw [decide_eq_false (hne (by omega))] at H1
              exact ⟨g', H1, _, H2⟩) P0
          obtain ⟨p3, B1, B2, B3⟩ := pbk_of R2 m8 (s0 := f 104) (fun y hy => by rw [U3 y hy, e104]) (fun y hy => by rw [p104])
          obtain ⟨P1, P2, P3, -⟩ := R2
          refine ⟨p3, ?_, ?_⟩
          · have R1' : W_X7_judge_1 [.ref 103, .int (nI s), .int 0, .int 0] (memOf p1) = some (.inl ([.ref 103, .int (nI s), .int 0, .int (nI K)], memOf p2)) := R1
            have w12 : g1 112 = f 112 := A2 112 (by omega) (by omega)
            have w13 : g1 113 s = nI n := by rw [A2 113 (by omega) (by omega)]; exact q4
            have wr := X7_wrong_in g1 hs4
            rw [w12, if_neg b] at wr
            have g5 : g1 104 0 = nI hh := by rw [e104]; exact b2
            have p13 : p3 113 s = nI n := by rw [B3 113 (by omega), P1 113 (by omega) (by omega) (by omega) (by omega), G 113 (by omega) (by omega) (by omega)]; exact q4
            have qK : (nI K = nI n) = (K = n) := propext (nI_inj (by omega) (by omega))
            by_cases c : K = n
            · have c' := eq_true c
              simp [D_X7_judge, S_X7_judge, m_den, l0, Value.category, s_seq, s_if, s_st, s_ret, s_retz, s_retv, s_skip, s_sc, s_inc, s_call, e_c, e_li, e_lr, e_lj, e_un, e_bin, e_if, e_b, b_not, b_and, b_or, b_of, e_call, a_recv, a_snoc, a_nil, prI, prJ, prR, e_gi, e_gr, e_ai, e_ar, s_as, s_aop, s_pf, s_pfz, s_fop, l_set, l_ok, e_div, e_rem, e_len, s_tab, rc_103, wr, g_103_18, rd_113 _ hs4, w13, X7_isTooFar, g5, hq, hN, U1, R1', B1, p13, qK, c']
            · simp [D_X7_judge, S_X7_judge, m_den, l0, Value.category, s_seq, s_if, s_st, s_ret, s_retz, s_retv, s_skip, s_sc, s_inc, s_call, e_c, e_li, e_lr, e_lj, e_un, e_bin, e_if, e_b, b_not, b_and, b_or, b_of, e_call, a_recv, a_snoc, a_nil, prI, prJ, prR, e_gi, e_gr, e_ai, e_ar, s_as, s_aop, s_pf, s_pfz, s_fop, l_set, l_ok, e_div, e_rem, e_len, s_tab, rc_103, wr, g_103_18, rd_113 _ hs4, w13, X7_isTooFar, g5, hq, hN, U1, R1', B1, p13, qK, c]
          · refine h.trial (fun x c1 c2 c3 c4 c5 c6 c7 => ?_) (fun y hy => ?_)
            · by_cases c : x = 104
              · subst c; exact B2
              · rw [B3 x c, P1 x c2 c c4 c5, U2 x c3, A2 x (by omega) (by omega)]
            · rw [B3 103 (by omega), P2 y (by omega), U2 103 (by omega), A2 103 (by omega) (by omega)]
        have Z : ∀ K r, (W_X6_judge_1 [.ref 0, .int (nI s), .int (nI n), .int 0] (memOf g1) = some (.inr (.int r, memOf g1)) ∧ K = true) ∨ (W_X6_judge_1 [.ref 0, .int (nI s), .int (nI n), .int 0] (memOf g1) = some (.inl ([.ref 0, .int (nI s), .int (nI n), .int (nI n)], memOf g1)) ∧ r = 0) → D_X6_judge [.ref 0, .int (nI s)] (memOf f) = some (.int r, memOf g1) := fun K r hz => by
          rcases hz with ⟨hz, -⟩ | ⟨hz, rfl⟩
          · simp [D_X6_judge, S_X6_judge, m_den, l0, Value.category, s_seq, s_if, s_st, s_ret, s_retz, s_retv, s_skip, s_sc, s_inc, s_call, e_c, e_li, e_lr, e_lj, e_un, e_bin, e_if, e_b, b_not, b_and, b_or, b_of, e_call, a_recv, a_snoc, a_nil, prI, prJ, prR, e_gi, e_gr, e_ai, e_ar, s_as, s_aop, s_pf, s_pfz, s_fop, l_set, l_ok, e_div, e_rem, e_len, s_tab, X6_isSheet, a1, a2, rc_0, g_0_4, rr_sh f hs4, rcsh f hs4, X2_isMissing f hs4, b', gsh1 f hs4, q3, X6_hasHours, b1, hq, hN, A1, hz]
          · simp [D_X6_judge, S_X6_judge, m_den, l0, Value.category, s_seq, s_if, s_st, s_ret, s_retz, s_retv, s_skip, s_sc, s_inc, s_call, e_c, e_li, e_lr, e_lj, e_un, e_bin, e_if, e_b, b_not, b_and, b_or, b_of, e_call, a_recv, a_snoc, a_nil, prI, prJ, prR, e_gi, e_gr, e_ai, e_ar, s_as, s_aop, s_pf, s_pfz, s_fop, l_set, l_ok, e_div, e_rem, e_len, s_tab, X6_isSheet, a1, a2, rc_0, g_0_4, rr_sh f hs4, rcsh f hs4, X2_isMissing f hs4, b', gsh1 f hs4, q3, X6_hasHours, b1, hq, hN, A1, hz]
        rcases first_ex (fun j => n ≤ j ∨ ¬ f (96 + 2 * s) j = D j) n with ⟨K, hK, hZ, hlt⟩ | hno
        · have hlt' : ∀ j, j < K → j < n ∧ f (96 + 2 * s) j = D j := fun j hj => by
            have := hlt j hj
            constructor
            · exact Nat.lt_of_not_le (fun q => this (Or.inl q))
            · exact Classical.byContradiction (fun q => this (Or.inr q))
          obtain ⟨p3, F1, F2⟩ := fin K hK (fun j hj => (hlt' j hj).2) (fun q => hZ.resolve_left (by omega))
          by_cases c : K = n
          · rw [if_pos c] at F1
            refine ⟨0, g1, p3, Z true _ (Or.inr ⟨?_, rfl⟩), F1, F2⟩
            have key := while_count (b := WB_X6_judge_1) (s := WS_X6_judge_1) (fun i => ([.ref 0, .int (nI s), .int (nI n), .int (nI i)], memOf g1)) n (by unfold FU; omega) (fun i hi => cb i hi) (fun i hi => cs i hi (hlt' i (by omega)).2) (by
              have e : ¬ nI n < nI n := Int32.lt_irrefl
              simp [WB_X6_judge_1, m_den, l0, Value.category, s_seq, s_if, s_st, s_ret, s_retz, s_retv, s_skip, s_sc, s_inc, s_call, e_c, e_li, e_lr, e_lj, e_un, e_bin, e_if, e_b, b_not, b_and, b_or, b_of, e_call, a_recv, a_snoc, a_nil, prI, prJ, prR, e_gi, e_gr, e_ai, e_ar, s_as, s_aop, s_pf, s_pfz, s_fop, l_set, l_ok, e_div, e_rem, e_len, s_tab, e])
            exact key
          · rw [if_neg c] at F1
            refine ⟨1 + nI K, g1, p3, Z true _ (Or.inl ⟨?_, rfl⟩), F1, F2⟩
            have key := while_found (b := WB_X6_judge_1) (s := WS_X6_judge_1) (fun i => ([.ref 0, .int (nI s), .int (nI n), .int (nI i)], memOf g1)) K (.int (1 + nI K), memOf g1) (by unfold FU; omega) (fun i hi => cb i (by omega)) (fun i hi => cs i (by omega) (hlt' i hi).2) (by
              have e := hZ.resolve_left (by omega)
              simp [WS_X6_judge_1, m_den, l0, Value.category, s_seq, s_if, s_st, s_ret, s_retz, s_retv, s_skip, s_sc, s_inc, s_call, e_c, e_li, e_lr, e_lj, e_un, e_bin, e_if, e_b, b_not, b_and, b_or, b_of, e_call, a_recv, a_snoc, a_nil, prI, prJ, prR, e_gi, e_gr, e_ai, e_ar, s_as, s_aop, s_pf, s_pfz, s_fop, l_set, l_ok, e_div, e_rem, e_len, s_tab, g_0_4, rr_sh g1 hs4, gsh2 g1 hs4, rN K (by omega), g_0_11, rD K (by omega), e])
            exact key
        · exact absurd (Or.inl (Nat.le_refl n)) (hno n (Nat.le_refl n))
      · refine agr_find (j := 4) (v := -1000005) h ?_ (fun g hg => ?_)
        · simp [D_X6_judge, S_X6_judge, m_den, l0, Value.category, s_seq, s_if, s_st, s_ret, s_retz, s_retv, s_skip, s_sc, s_inc, s_call, e_c, e_li, e_lr, e_lj, e_un, e_bin, e_if, e_b, b_not, b_and, b_or, b_of, e_call, a_recv, a_snoc, a_nil, prI, prJ, prR, e_gi, e_gr, e_ai, e_ar, s_as, s_aop, s_pf, s_pfz, s_fop, l_set, l_ok, e_div, e_rem, e_len, s_tab, X6_isSheet, a1, a2, rc_0, g_0_4, rr_sh f hs4, rcsh f hs4, X2_isMissing f hs4, b', gsh1 f hs4, q3, X6_hasHours, b1, hq, hN, X6_fin_4]
        · have b2' : g 104 0 = nI hh := by rw [hg.1]; exact b2
          have wr := X7_wrong_in g hs4
          rw [hg.2.2.1, if_neg b] at wr
          have w13 : g 113 s = nI n := by rw [hg.2.2.2.1]; exact q4
          simp [D_X7_judge, S_X7_judge, m_den, l0, Value.category, s_seq, s_if, s_st, s_ret, s_retz, s_retv, s_skip, s_sc, s_inc, s_call, e_c, e_li, e_lr, e_lj, e_un, e_bin, e_if, e_b, b_not, b_and, b_or, b_of, e_call, a_recv, a_snoc, a_nil, prI, prJ, prR, e_gi, e_gr, e_ai, e_ar, s_as, s_aop, s_pf, s_pfz, s_fop, l_set, l_ok, e_div, e_rem, e_len, s_tab, rc_103, wr, g_103_18, rd_113 _ hs4, w13, X7_isTooFar, b2', hq, hN, X7_fin_4]
  · exact agr_find h (X6_judge_no f hs) (fun g _ => X7_judge_no g hs)
