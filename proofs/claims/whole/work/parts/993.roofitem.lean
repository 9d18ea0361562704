theorem X7_roofItem (f : FN) {T : Nat → Nat} {t : Nat} {q : Nat × Bool} (h : cuR f T t q.1 q.2) (ht : t ≤ 120) : ∃ g, D_X7_roofItem [.ref 103] (memOf f) = some (.null, memOf g) ∧ (∀ x, x ≠ 103 → x ≠ 104 → g x = f x) ∧ (∀ y, ¬ (13 ≤ y ∧ y ≤ 16) → g 103 y = f 103 y) ∧ cuR g T t (rfP T t (nd T t true q)).1 (rfP T t (nd T t true q)).2 ∧ ((rfP T t (nd T t true q)).2 = true → g 104 = f 104) ∧ ((rfP T t (nd T t true q)).2 = false → g 104 = upd (f 104) (3 + nN T t (nd T t true q).1) (nI (nN T t (nw T t w_of (nm T t 35 (nd T t true q))).1))) := by
  obtain ⟨g0, Z1, Z2, Z3, Z4⟩ := X7_needs' f h true
  obtain ⟨g1, A1, A2, A3, A4, A5⟩ := X7_number' g0 (q := nd T t true q) (most := 35) Z4 (by omega)
  obtain ⟨z, g2, B0, B1, B2, B3, B4⟩ := X7_needsW g1 (q := nm T t 35 (nd T t true q)) (C := 486) (ws := w_of) A4 (by decide) (wc_of T A4.1 ht)
  obtain ⟨g3, C1, C2, C3, C4, C5⟩ := X7_number' g2 (q := nw T t w_of (nm T t 35 (nd T t true q))) (most := 5) B4 (by omega)
  have Z1' : D_X7_needs [.ref 103, .int 1] (memOf f) = some (.null, memOf g0) := Z1
  have A1' : D_X7_number [.ref 103, .int 0, .int 35] (memOf g0) = some (.null, memOf g1) := A1
  have C1' : D_X7_number [.ref 103, .int 0, .int 5] (memOf g2) = some (.null, memOf g3) := C1
  have e3 : ∀ x, x ≠ 103 → g3 x = f x := fun x hx => by rw [C2 x hx, B2 x hx, A2 x hx, Z2 x hx]
  have y3 : ∀ y, ¬ (13 ≤ y ∧ y ≤ 16) → g3 103 y = f 103 y := fun y hy => by rw [C3 y hy, B3 y hy, A3 y hy, Z3 y hy]
  have w3 : g3 103 16 = b2i (rfP T t (nd T t true q)).2 := C4.2.2.2
  have C4' : cuR g3 T t (rfP T t (nd T t true q)).1 (rfP T t (nd T t true q)).2 := C4
  cases hq : (rfP T t (nd T t true q)).2 with
  | true =>
    rw [hq] at w3 C4'
    refine ⟨g3, ?_, fun x hx _ => e3 x hx, y3, C4', fun _ => e3 104 (by omega), fun c => absurd c (by decide)⟩
    by_cases cz : z = 486
    · have B1' : D_X7_needs [.ref 103, .int 1] (memOf g1) = some (.null, memOf g2) := by rw [decide_eq_true cz] at B1; exact B1
      simp [D_X7_roofItem, S_X7_roofItem, m_den, l0, Value.category, s_seq, s_if, s_st, s_ret, s_retz, s_retv, s_skip, s_sc, s_inc, s_call, e_c, e_li, e_lr, e_lj, e_un, e_bin, e_if, e_b, b_not, b_and, b_or, b_of, e_call, a_recv, a_snoc, a_nil, prI, prJ, prR, e_gi, e_gr, e_ai, e_ar, s_as, s_aop, s_pf, s_pfz, s_fop, l_set, l_ok, e_div, e_rem, e_len, s_tab, rc_103, Z1', A1', g_103_15, B0, lg_zero, cz, B1', C1', g_103_16, w3, b2i]
    · have B1' : D_X7_needs [.ref 103, .int 0] (memOf g1) = some (.null, memOf g2) := by rw [decide_eq_false cz] at B1; exact B1
      simp [D_X7_roofItem, S_X7_roofItem, m_den, l0, Value.category, s_seq, s_if, s_st, s_ret, s_retz, s_retv, s_skip, s_sc, s_inc, s_call, e_c, e_li, e_lr, e_lj, e_un, e_bin, e_if, e_b, b_not, b_and, b_or, b_of, e_call, a_recv, a_snoc, a_nil, prI, prJ, prR, e_gi, e_gr, e_ai, e_ar, s_as, s_aop, s_pf, s_pfz, s_fop, l_set, l_ok, e_div, e_rem, e_len, s_tab, rc_103, Z1', A1', g_103_15, B0, lg_zero, cz, B1', C1', g_103_16, w3, b2i]
  | false =>
    rw [hq] at w3 C4'
    have v1 := A5 (nd_ok (nd_ok hq).1).1
    have v2 := C5 hq
    have m1 := nm_most (nd_ok (nd_ok hq).1).1
    have i1 : (3 : Int32) + nI (nN T t (nd T t true q).1) = nI (3 + nN T t (nd T t true q).1) := nI_a 3 _
    refine ⟨row g3 104 (upd (g3 104) (3 + nN T t (nd T t true q).1) (g3 103 15)), ?_, fun x hx h4 => by rw [row_ne _ _ h4]; exact e3 x hx, fun y hy => by rw [row_ne _ _ (by omega)]; exact y3 y hy, ?_, fun c => absurd c (by decide), fun _ => ?_⟩
    · by_cases cz : z = 486
      · have B1' : D_X7_needs [.ref 103, .int 1] (memOf g1) = some (.null, memOf g2) := by rw [decide_eq_true cz] at B1; exact B1
        simp [D_X7_roofItem, S_X7_roofItem, m_den, l0, Value.category, s_seq, s_if, s_st, s_ret, s_retz, s_retv, s_skip, s_sc, s_inc, s_call, e_c, e_li, e_lr, e_lj, e_un, e_bin, e_if, e_b, b_not, b_and, b_or, b_of, e_call, a_recv, a_snoc, a_nil, prI, prJ, prR, e_gi, e_gr, e_ai, e_ar, s_as, s_aop, s_pf, s_pfz, s_fop, l_set, l_ok, e_div, e_rem, e_len, s_tab, rc_103, Z1', A1', g_103_15, B0, lg_zero, cz, B1', C1', g_103_16, w3, b2i, v1, g_103_0, i1, wr_104 g3 (show 3 + nN T t (nd T t true q).1 < 735 by omega)]
      · have B1' : D_X7_needs [.ref 103, .int 0] (memOf g1) = some (.null, memOf g2) := by rw [decide_eq_false cz] at B1; exact B1
        simp [D_X7_roofItem, S_X7_roofItem, m_den, l0, Value.category, s_seq, s_if, s_st, s_ret, s_retz, s_retv, s_skip, s_sc, s_inc, s_call, e_c, e_li, e_lr, e_lj, e_un, e_bin, e_if, e_b, b_not, b_and, b_or, b_of, e_call, a_recv, a_snoc, a_nil, prI, prJ, prR, e_gi, e_gr, e_ai, e_ar, s_as, s_aop, s_pf, s_pfz, s_fop, l_set, l_ok, e_div, e_rem, e_len, s_tab, rc_103, Z1', A1', g_103_15, B0, lg_zero, cz, B1', C1', g_103_16, w3, b2i, v1, g_103_0, i1, wr_104 g3 (show 3 + nN T t (nd T t true q).1 < 735 by omega)]
    · obtain ⟨c1, c2, c3, c4⟩ := C4'
      have r3 : row g3 104 (upd (g3 104) (3 + nN T t (nd T t true q).1) (g3 103 15)) 103 = g3 103 := row_ne _ _ (by omega)
      have r11 : row g3 104 (upd (g3 104) (3 + nN T t (nd T t true q).1) (g3 103 15)) 111 = g3 111 := row_ne _ _ (by omega)
      exact ⟨c1, c2.congr (by rw [r3]) r11, by unfold TKR at c3 ⊢; rw [r3]; exact c3, by rw [r3]; exact c4⟩
    · rw [row_self, e3 104 (by omega), v2]
