/-! winds of the class: one number -/
theorem cuX_row {g : FN} {T : Nat → Nat} {t p : Nat} {w : Bool} (h : cuX g T t p w) {k : Nat} (hk : k < 77) (r : Nat → Int32) : cuX (row g k r) T t p w := by
  obtain ⟨c1, c2, c3, c4⟩ := h
  have r78 : row g k r 78 = g 78 := row_ne _ _ (by omega)
  have r79 : row g k r 79 = g 79 := row_ne _ _ (by omega)
  exact ⟨c1, by unfold TPX at c2 ⊢; rw [r78, r79]; exact c2, by unfold TKX at c3 ⊢; rw [r78]; exact c3, by rw [r78]; exact c4⟩
theorem readWind_step (f : FN) {T : Nat → Nat} {t : Nat} {q : Nat × Bool} (h : cuX f T t q.1 q.2) {n : Nat} (hn : n < 24) (sure : Bool) (hs : f 77 1 = b2i sure) : ∃ (v : Nat) (g : FN), WS_X1_readWind_1 [.ref 77, .ref 1, .int (nI n)] (memOf f) = some (.inl ([.ref 77, .ref 1, .int (nI (n + 1))], memOf g)) ∧ (∀ x, x ≠ 78 → g x = (if sure then row f 3 (upd (f 3) n (nI v)) else f) x) ∧ cuX g T t (nm T t 4 q).1 (nm T t 4 q).2 ∧ v ≤ 4 ∧ ((nm T t 4 q).2 = false → v = nN T t q.1) := by
  obtain ⟨v, g1, A1, A2, A3, A4, A5⟩ := X4_needNumber' f (most := 4) h (by omega)
  have A1' : D_X4_needNumber [.ref 78, .int 4] (memOf f) = some (.int (nI v), memOf g1) := A1
  have s1 : g1 77 1 = b2i sure := by rw [A2 77 (by omega)]; exact hs
  cases sure with
  | false =>
    refine ⟨v, g1, ?_, fun x hx => A2 x hx, A3, A4, A5⟩
    simp [WS_X1_readWind_1, m_den, l0, Value.category, s_seq, s_if, s_st, s_ret, s_retz, s_retv, s_skip, s_sc, s_inc, s_call, e_c, e_li, e_lr, e_lj, e_un, e_bin, e_if, e_b, b_not, b_and, b_or, b_of, e_call, a_recv, a_snoc, a_nil, prI, prJ, prR, e_gi, e_gr, e_ai, e_ar, s_as, s_aop, s_pf, s_pfz, s_fop, l_set, l_ok, e_div, e_rem, e_len, s_tab, g_77_0, rc_78, A1', g_77_1, s1, b2i, nI_next]
  | true =>
    refine ⟨v, row g1 3 (upd (g1 3) n (nI v)), ?_, fun x hx => ?_, cuX_row A3 (by omega) _, A4, A5⟩
    · simp [WS_X1_readWind_1, m_den, l0, Value.category, s_seq, s_if, s_st, s_ret, s_retz, s_retv, s_skip, s_sc, s_inc, s_call, e_c, e_li, e_lr, e_lj, e_un, e_bin, e_if, e_b, b_not, b_and, b_or, b_of, e_call, a_recv, a_snoc, a_nil, prI, prJ, prR, e_gi, e_gr, e_ai, e_ar, s_as, s_aop, s_pf, s_pfz, s_fop, l_set, l_ok, e_div, e_rem, e_len, s_tab, g_77_0, rc_78, A1', g_77_1, s1, b2i, nI_next, g_1_4, wr_3 g1 hn]
    · simp only [if_true]
      by_cases c : x = 3
      · subst c; rw [row_self, row_self, A2 3 (by omega)]
      · rw [row_ne _ _ c, row_ne _ _ c, A2 x hx]
