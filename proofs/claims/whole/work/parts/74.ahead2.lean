/-! ahead agrees -/
theorem REL.trial {f g : FN} (h : REL f) (e : ∀ x, ¬ (82 ≤ x ∧ x ≤ 94) → x ≠ 103 → x ≠ 106 → x ≠ 108 → x ≠ 109 → x ≠ 110 → x ≠ 115 → g x = f x) (h1 : ∀ y, y < 7 ∨ (9 < y ∧ y < 13) → g 103 y = f 103 y) : REL g :=
  h.scr (fun j hj => e j (by omega) (by omega) (by omega) (by omega) (by omega) (by omega) (by omega)) ⟨h1 4 (by omega), h1 12 (by omega)⟩
theorem agr_ahead {f : FN} (h : REL f) (x u : Int32) : AGR D_X6_ahead D_X7_ahead [.int x, .int u] f := by
  obtain ⟨⟨m, hT, hV⟩, -⟩ := id h
  obtain ⟨TRS, ro, wd, Q, bo, hh, w⟩ := TW.ex hT hV
  by_cases hc : 0 ≤ x ∧ x ≤ 72 ∧ 0 ≤ u ∧ u ≤ 14
  · obtain ⟨a1, a2, a3, a4⟩ := hc
    obtain ⟨n, hn, rfl⟩ := in_ex (n := 72) ⟨a1, a2⟩ (by omega)
    obtain ⟨v, hv, rfl⟩ := in_ex (n := 14) ⟨a3, a4⟩ (by omega)
    have hAl := w.A_le
    obtain ⟨⟨b1, b2, b3, b4⟩, hS, sp, ro', wd', bk', tk, bn⟩ := id w
    have m8 := hS.1.2
    have hq := hor (h := hh) (n := n) b3 (by omega)
    by_cases hN : hh + n ≤ 9999
    · obtain ⟨f1, T1, T2, T3⟩ := X3_begin f
      obtain ⟨g1, A1, A2, A3⟩ := X6_ahead_W f1 (what := nI v) w T3 T2 hN
      have e104 := A2 104 (by omega)
      obtain ⟨p1, U1, U2, U3⟩ := X7_puts g1
      have p104 : p1 104 = f 104 := by rw [U2 104 (by omega), e104]
      obtain ⟨f', p2, H1, H2, H3, H4⟩ := X7_hoursGo p1 (n := n) (TRS := TRS) (ro := ro) (wd := wd) (Q := Q) (h := hh) (by rw [p104]; exact hS) (by rw [p104]; exact b2) (fun k hk => by rw [p104]; exact (sp k hk).1) hAl hN
      obtain ⟨p3, B1, B2, B3⟩ := pbk_of H4 m8 (s0 := f 104) (fun y hy => by rw [H2 106 (by omega), U3 y hy, e104]) (fun y hy => by rw [H2 104 (by omega), p104])
      obtain ⟨P1, P2, P3, P4, P5, P6, P7, P8⟩ := H4
      have r1 := hq ▸ hN
      have hrel : REL p3 := by
        refine h.trial (fun x c1 c2 c3 c4 c5 c6 c7 => ?_) (fun y hy => ?_)
        · by_cases c : x = 104
          · subst c; exact B2
          · rw [B3 x c, P1 x c2 c c4 c5, H2 x c5, U2 x c3, A2 x (by omega)]
        · rw [B3 103 (by omega), P2 y (by omega), H2 103 (by omega), U2 103 (by omega), A2 103 (by omega)]
      have q0 : (nI v = 0) = (v = 0) := propext (nI_inj (a := v) (b := 0) (by omega) (by omega))
      have q1 : (nI v = 1) = (v = 1) := propext (nI_inj (a := v) (b := 1) (by omega) (by omega))
      have q2 : (nI v = 2) = (v = 2) := propext (nI_inj (a := v) (b := 2) (by omega) (by omega))
      have q3 : (nI v ≤ 2) = (v ≤ 2) := propext (nI_le_iff (a := v) (b := 2) (by omega) (by omega))
      have q9 : (nI v < 9) = (v < 9) := propext (nI_lt_iff (a := v) (b := 9) (by omega) (by omega))
      have b2' : g1 104 0 = nI hh := by rw [e104]; exact b2
      -- the class
      have CX : ∀ val : Int32, (v = 0 → val = g1 86 0) → (v = 1 → val = nI (csI m (fun k => (rn TRS wd hh Q n k).2.2.2.1))) → (v = 2 → val = nI (csI m (fun k => (rn TRS wd hh Q n k).2.2.1))) → (3 ≤ v → v < 9 → val = g1 4 (v - 3) + g1 87 (v - 3)) → (9 ≤ v → val = g1 89 (v - 9)) → D_X6_ahead [.ref 0, .int (nI n), .int (nI v)] (memOf f) = some (.int val, memOf g1) := by
        intro val k0 k1 k2 k3 k4
        by_cases c0 : v = 0
        · have d0 := eq_true c0
          simp [D_X6_ahead, S_X6_ahead, m_den, l0, Value.category, s_seq, s_if, s_st, s_ret, s_retz, s_retv, s_skip, s_sc, s_inc, s_call, e_c, e_li, e_lr, e_lj, e_un, e_bin, e_if, e_b, b_not, b_and, b_or, b_of, e_call, a_recv, a_snoc, a_nil, prI, prJ, prR, e_gi, e_gr, e_ai, e_ar, s_as, s_aop, s_pf, s_pfz, s_fop, l_set, l_ok, e_div, e_rem, e_len, s_tab, X6_isIn, a1, a2, a3, a4, rc_0, X6_hasHours, b1, hq, hN, g_0_7, rc_86, T1, A1, q0, d0, g_86_0, k0 c0]
        · have d0 := eq_false c0
          by_cases c1 : v = 1
          · have d1 := eq_true c1
            have d3 : (v ≤ 2) = True := eq_true (by omega)
            simp [D_X6_ahead, S_X6_ahead, m_den, l0, Value.category, s_seq, s_if, s_st, s_ret, s_retz, s_retv, s_skip, s_sc, s_inc, s_call, e_c, e_li, e_lr, e_lj, e_un, e_bin, e_if, e_b, b_not, b_and, b_or, b_of, e_call, a_recv, a_snoc, a_nil, prI, prJ, prR, e_gi, e_gr, e_ai, e_ar, s_as, s_aop, s_pf, s_pfz, s_fop, l_set, l_ok, e_div, e_rem, e_len, s_tab, X6_isIn, a1, a2, a3, a4, rc_0, X6_hasHours, b1, hq, hN, g_0_7, rc_86, T1, A1, q0, d0, q3, d3, q1, d1, k1 c1]
          · have d1 := eq_false c1
            by_cases c2 : v = 2
            · have d3 : (v ≤ 2) = True := eq_true (by omega)
              simp [D_X6_ahead, S_X6_ahead, m_den, l0, Value.category, s_seq, s_if, s_st, s_ret, s_retz, s_retv, s_skip, s_sc, s_inc, s_call, e_c, e_li, e_lr, e_lj, e_un, e_bin, e_if, e_b, b_not, b_and, b_or, b_of, e_call, a_recv, a_snoc, a_nil, prI, prJ, prR, e_gi, e_gr, e_ai, e_ar, s_as, s_aop, s_pf, s_pfz, s_fop, l_set, l_ok, e_div, e_rem, e_len, s_tab, X6_isIn, a1, a2, a3, a4, rc_0, X6_hasHours, b1, hq, hN, g_0_7, rc_86, T1, A1, q0, d0, q3, d3, q1, d1, k2 c2]
            · have d3 : (v ≤ 2) = False := eq_false (by omega)
              have s3 : nI v - 3 = nI (v - 3) := nI_s (a := v) (b := 3) (by omega)
              have r6 := rem6 (a := v - 3) (by omega)
              by_cases c9 : v < 9
              · have d9 := eq_true c9
                have e6 : (v - 3) % 6 = v - 3 := Nat.mod_eq_of_lt (by omega)
                simp [D_X6_ahead, S_X6_ahead, m_den, l0, Value.category, s_seq, s_if, s_st, s_ret, s_retz, s_retv, s_skip, s_sc, s_inc, s_call, e_c, e_li, e_lr, e_lj, e_un, e_bin, e_if, e_b, b_not, b_and, b_or, b_of, e_call, a_recv, a_snoc, a_nil, prI, prJ, prR, e_gi, e_gr, e_ai, e_ar, s_as, s_aop, s_pf, s_pfz, s_fop, l_set, l_ok, e_div, e_rem, e_len, s_tab, X6_isIn, a1, a2, a3, a4, rc_0, X6_hasHours, b1, hq, hN, g_0_7, g_0_0, rc_86, T1, A1, q0, d0, q3, d3, q9, d9, s3, r6, e6, g_1_5, g_86_1, rd_4 g1 (show v - 3 < 6 by omega), rd_87 g1 (show v - 3 < 6 by omega), k3 (by omega) c9]
              · have d9 := eq_false c9
                have e6 : (v - 3) % 6 = v - 9 := by omega
                simp [D_X6_ahead, S_X6_ahead, m_den, l0, Value.category, s_seq, s_if, s_st, s_ret, s_retz, s_retv, s_skip, s_sc, s_inc, s_call, e_c, e_li, e_lr, e_lj, e_un, e_bin, e_if, e_b, b_not, b_and, b_or, b_of, e_call, a_recv, a_snoc, a_nil, prI, prJ, prR, e_gi, e_gr, e_ai, e_ar, s_as, s_aop, s_pf, s_pfz, s_fop, l_set, l_ok, e_div, e_rem, e_len, s_tab, X6_isIn, a1, a2, a3, a4, rc_0, X6_hasHours, b1, hq, hN, g_0_7, g_0_0, rc_86, T1, A1, q0, d0, q3, d3, q9, d9, s3, r6, e6, g_86_3, rd_89 g1 (show v - 9 < 6 by omega), k4 (by omega)]
      -- the reference
      have RX : ∀ val : Int32, (v = 0 → val = nI (csI n (fun i => csI m (fun k => nS TRS wd hh Q i k)))) → (v = 1 → val = sumI 8 (fun k => p2 104 (709 + k))) → (v = 2 → val = sumI 8 (fun k => p2 104 (701 + k))) → (3 ≤ v → v < 9 → val = p2 104 (119 + (v - 3))) → (9 ≤ v → val = p2 109 (v - 9)) → D_X7_ahead [.ref 103, .int (nI n), .int (nI v)] (memOf g1) = some (.int val, memOf p3) := by
        intro val k0 k1 k2 k3 k4
        by_cases c0 : v = 0
        · have d0 := eq_true c0
          simp [D_X7_ahead, S_X7_ahead, m_den, l0, Value.category, s_seq, s_if, s_st, s_ret, s_retz, s_retv, s_skip, s_sc, s_inc, s_call, e_c, e_li, e_lr, e_lj, e_un, e_bin, e_if, e_b, b_not, b_and, b_or, b_of, e_call, a_recv, a_snoc, a_nil, prI, prJ, prR, e_gi, e_gr, e_ai, e_ar, s_as, s_aop, s_pf, s_pfz, s_fop, l_set, l_ok, e_div, e_rem, e_len, s_tab, X7_in, j_le_72, j_le_14, j_ge_0, a1, a2, a3, a4, rc_103, X7_isTooFar, b2', hq, hN, U1, H1, q0, d0, B1, k0 c0]
        · have d0 := eq_false c0
          by_cases c1 : v = 1
          · have d1 := eq_true c1
            have al := X7_allOf p2 (w := 709) (by omega)
            have z : nI 709 = 709 := rfl
            rw [z] at al
            simp [D_X7_ahead, S_X7_ahead, m_den, l0, Value.category, s_seq, s_if, s_st, s_ret, s_retz, s_retv, s_skip, s_sc, s_inc, s_call, e_c, e_li, e_lr, e_lj, e_un, e_bin, e_if, e_b, b_not, b_and, b_or, b_of, e_call, a_recv, a_snoc, a_nil, prI, prJ, prR, e_gi, e_gr, e_ai, e_ar, s_as, s_aop, s_pf, s_pfz, s_fop, l_set, l_ok, e_div, e_rem, e_len, s_tab, X7_in, j_le_72, j_le_14, j_ge_0, a1, a2, a3, a4, rc_103, X7_isTooFar, b2', hq, hN, U1, H1, q0, d0, q1, d1, al, B1, k1 c1]
          · have d1 := eq_false c1
            by_cases c2 : v = 2
            · have d2 := eq_true c2
              have al := X7_allOf p2 (w := 701) (by omega)
              have z : nI 701 = 701 := rfl
              rw [z] at al
              simp [D_X7_ahead, S_X7_ahead, m_den, l0, Value.category, s_seq, s_if, s_st, s_ret, s_retz, s_retv, s_skip, s_sc, s_inc, s_call, e_c, e_li, e_lr, e_lj, e_un, e_bin, e_if, e_b, b_not, b_and, b_or, b_of, e_call, a_recv, a_snoc, a_nil, prI, prJ, prR, e_gi, e_gr, e_ai, e_ar, s_as, s_aop, s_pf, s_pfz, s_fop, l_set, l_ok, e_div, e_rem, e_len, s_tab, X7_in, j_le_72, j_le_14, j_ge_0, a1, a2, a3, a4, rc_103, X7_isTooFar, b2', hq, hN, U1, H1, q0, d0, q1, d1, q2, d2, al, B1, k2 c2]
            · have d2 := eq_false c2
              by_cases c9 : v < 9
              · have d9 := eq_true c9
                have s3 : (119 : Int32) + nI v - 3 = nI (119 + (v - 3)) := by
                  have e1 : (119 : Int32) + nI v = nI (119 + v) := nI_a 119 v
                  have e2 : nI (119 + v) - 3 = nI (119 + v - 3) := nI_s (a := 119 + v) (b := 3) (by omega)
                  rw [e1, e2, show 119 + v - 3 = 119 + (v - 3) by omega]
                simp [D_X7_ahead, S_X7_ahead, m_den, l0, Value.category, s_seq, s_if, s_st, s_ret, s_retz, s_retv, s_skip, s_sc, s_inc, s_call, e_c, e_li, e_lr, e_lj, e_un, e_bin, e_if, e_b, b_not, b_and, b_or, b_of, e_call, a_recv, a_snoc, a_nil, prI, prJ, prR, e_gi, e_gr, e_ai, e_ar, s_as, s_aop, s_pf, s_pfz, s_fop, l_set, l_ok, e_div, e_rem, e_len, s_tab, X7_in, j_le_72, j_le_14, j_ge_0, a1, a2, a3, a4, rc_103, X7_isTooFar, b2', hq, hN, U1, H1, q0, d0, q1, d1, q2, d2, q9, d9, s3, g_103_0, rd_104 p2 (show 119 + (v - 3) < 735 by omega), B1, k3 (by omega) c9]
              · have d9 := eq_false c9
                have s9 : nI v - 9 = nI (v - 9) := nI_s (a := v) (b := 9) (by omega)
                simp [D_X7_ahead, S_X7_ahead, m_den, l0, Value.category, s_seq, s_if, s_st, s_ret, s_retz, s_retv, s_skip, s_sc, s_inc, s_call, e_c, e_li, e_lr, e_lj, e_un, e_bin, e_if, e_b, b_not, b_and, b_or, b_of, e_call, a_recv, a_snoc, a_nil, prI, prJ, prR, e_gi, e_gr, e_ai, e_ar, s_as, s_aop, s_pf, s_pfz, s_fop, l_set, l_ok, e_div, e_rem, e_len, s_tab, X7_in, j_le_72, j_le_14, j_ge_0, a1, a2, a3, a4, rc_103, X7_isTooFar, b2', hq, hN, U1, H1, q0, d0, q1, d1, q2, d2, q9, d9, s9, g_103_6, rd_109 p2 (show v - 9 < 6 by omega), B1, k4 (by omega)]
      have z7 := hT.2.2.2.2.2.2
      have fz : ∀ k, m ≤ k → k < 8 → ∀ y, inCh k y → p2 104 y = f 104 y := fun k hk1 hk2 y hy => by
        rw [P3 y (by unfold inCh at hy; omega) (by unfold inCh at hy; omega) (fun k' hk' => inCh_dis hk2 (by omega) (by omega) hy), H2 104 (by omega), p104]
      refine ⟨if v = 0 then nI (csI n (fun i => csI m (fun k => nS TRS wd hh Q i k))) else if v = 1 then nI (csI m (fun k => (rn TRS wd hh Q n k).2.2.2.1)) else if v = 2 then nI (csI m (fun k => (rn TRS wd hh Q n k).2.2.1)) else if v < 9 then p2 104 (119 + (v - 3)) else p2 109 (v - 9), g1, p3, CX _ (fun c => ?_) (fun c => ?_) (fun c => ?_) (fun c1 c2 => ?_) (fun c => ?_), RX _ (fun c => ?_) (fun c => ?_) (fun c => ?_) (fun c1 c2 => ?_) (fun c => ?_), hrel⟩
      · rw [if_pos c, A3.1, csI_swap]; rfl
      · rw [if_neg (by omega), if_pos c]
      · rw [if_neg (by omega), if_neg (by omega), if_pos c]
      · rw [if_neg (by omega), if_neg (by omega), if_neg (by omega), if_pos c2, P6 bo (fun o ho => by rw [H2 104 (by omega), p104]; exact (bk' o ho).2) _ (by omega), A3.2.1 _ (by omega), A2 4 (by omega), (bk' _ (by omega)).1, iI_a, ciI_swap]; rfl
      · rw [if_neg (by omega), if_neg (by omega), if_neg (by omega), if_neg (by omega), P7 (fun _ => 0) H3 _ (by omega), A3.2.2.2 _ (by omega), Nat.zero_add, csI_swap]; rfl
      · rw [if_pos c]
      · rw [if_neg (by omega), if_pos c]
        exact (sumI_8 m8 (fun k hk => (P5 k hk).2.2.2.1) (fun k h1 h2 => by rw [fz k h1 h2 _ (by unfold inCh; omega)]; exact (z7 k h1 h2).2.2.2.1)).symm
      · rw [if_neg (by omega), if_neg (by omega), if_pos c]
        exact (sumI_8 m8 (fun k hk => (P5 k hk).2.2.1) (fun k h1 h2 => by rw [fz k h1 h2 _ (by unfold inCh; omega)]; exact (z7 k h1 h2).2.2.1)).symm
      · rw [if_neg (by omega), if_neg (by omega), if_neg (by omega), if_pos c2]
      · rw [if_neg (by omega), if_neg (by omega), if_neg (by omega), if_neg (by omega)]
    · refine agr_find (j := 4) (v := -1000005) h ?_ (fun g hg => ?_)
      · simp [D_X6_ahead, S_X6_ahead, m_den, l0, Value.category, s_seq, s_if, s_st, s_ret, s_retz, s_retv, s_skip, s_sc, s_inc, s_call, e_c, e_li, e_lr, e_lj, e_un, e_bin, e_if, e_b, b_not, b_and, b_or, b_of, e_call, a_recv, a_snoc, a_nil, prI, prJ, prR, e_gi, e_gr, e_ai, e_ar, s_as, s_aop, s_pf, s_pfz, s_fop, l_set, l_ok, e_div, e_rem, e_len, s_tab, X6_isIn, a1, a2, a3, a4, rc_0, X6_hasHours, b1, hq, hN, X6_fin_4]
      · have b2' : g 104 0 = nI hh := by rw [hg.1]; exact b2
        simp [D_X7_ahead, S_X7_ahead, m_den, l0, Value.category, s_seq, s_if, s_st, s_ret, s_retz, s_retv, s_skip, s_sc, s_inc, s_call, e_c, e_li, e_lr, e_lj, e_un, e_bin, e_if, e_b, b_not, b_and, b_or, b_of, e_call, a_recv, a_snoc, a_nil, prI, prJ, prR, e_gi, e_gr, e_ai, e_ar, s_as, s_aop, s_pf, s_pfz, s_fop, l_set, l_ok, e_div, e_rem, e_len, s_tab, X7_in, j_le_72, j_le_14, j_ge_0, a1, a2, a3, a4, rc_103, X7_isTooFar, b2', hq, hN, X7_fin_4]
  · exact agr_find h (X6_ahead_no0 f hc) (fun g _ => X7_ahead_no0 g hc)
