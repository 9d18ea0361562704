/-! the reference's wind item; q before the word -/
theorem X7_windItem (f : FN) {T : Nat → Nat} {t : Nat} {q : Nat × Bool} (h : cuR f T t q.1 q.2) (ht : t ≤ 120) : ∃ g, D_X7_windItem [.ref 103] (memOf f) = some (.null, memOf g) ∧ (∀ x, x ≠ 103 → x ≠ 104 → g x = f x) ∧ (∀ y, ¬ (13 ≤ y ∧ y ≤ 16) → g 103 y = f 103 y) ∧ cuR g T t (wnR T t (nw T t w_wind q)).1 (wnR T t (nw T t w_wind q)).2 ∧ (∀ y, 735 ≤ y → g 104 y = f 104 y) ∧ ((wnR T t (nw T t w_wind q)).2 = false → g 104 = wR T t (nm T t 23 (nw T t w_wind q)) (39 + nN T t (nw T t w_wind q).1) (f 104) (wdK T t (nm T t 23 (nw T t w_wind q)) (nN T t (nw T t w_wind q).1) + 1)) := by
  obtain ⟨z, g1, B0, B1, B2, B3, B4⟩ := X7_needsW f (C := 763332) (ws := w_wind) h (by decide) (wc_wind T h.1 ht)
  obtain ⟨g2, C1, C2, C3, C4, C5⟩ := X7_number' g1 (q := nw T t w_wind q) (most := 23) B4 (by omega)
  have C1' : D_X7_number [.ref 103, .int 0, .int 23] (memOf g1) = some (.null, memOf g2) := C1
  generalize nw T t w_wind q = q1 at B4 C4 C5 ⊢
  have E2 : ∀ x, x ≠ 103 → g2 x = f x := fun x hx => by rw [C2 x hx, B2 x hx]
  have Y2 : ∀ y, ¬ (13 ≤ y ∧ y ≤ 16) → g2 103 y = f 103 y := fun y hy => by rw [C3 y hy, B3 y hy]
  have fin : ∀ (c : Int32) (Lf : List Value) (g : FN), g2 103 15 = c → W_X7_windItem_1 [.ref 103, .int c, .int 1] (memOf g2) = some (.inl (Lf, memOf g)) → D_X7_windItem [.ref 103] (memOf f) = some (.null, memOf g) := fun c Lf g ec hW => by
    by_cases cz : z = 763332
    · have B1' : D_X7_needs [.ref 103, .int 1] (memOf f) = some (.null, memOf g1) := by rw [decide_eq_true cz] at B1; exact B1
      simp [D_X7_windItem, S_X7_windItem, m_den, l0, Value.category, s_seq, s_if, s_st, s_ret, s_retz, s_retv, s_skip, s_sc, s_inc, s_call, e_c, e_li, e_lr, e_lj, e_un, e_bin, e_if, e_b, b_not, b_and, b_or, b_of, e_call, a_recv, a_snoc, a_nil, prI, prJ, prR, e_gi, e_gr, e_ai, e_ar, s_as, s_aop, s_pf, s_pfz, s_fop, l_set, l_ok, e_div, e_rem, e_len, s_tab, rc_103, B0, lg_zero, cz, B1', C1', g_103_15, ec, hW]
    · have B1' : D_X7_needs [.ref 103, .int 0] (memOf f) = some (.null, memOf g1) := by rw [decide_eq_false cz] at B1; exact B1
      simp [D_X7_windItem, S_X7_windItem, m_den, l0, Value.category, s_seq, s_if, s_st, s_ret, s_retz, s_retv, s_skip, s_sc, s_inc, s_call, e_c, e_li, e_lr, e_lj, e_un, e_bin, e_if, e_b, b_not, b_and, b_or, b_of, e_call, a_recv, a_snoc, a_nil, prI, prJ, prR, e_gi, e_gr, e_ai, e_ar, s_as, s_aop, s_pf, s_pfz, s_fop, l_set, l_ok, e_div, e_rem, e_len, s_tab, rc_103, B0, lg_zero, cz, B1', C1', g_103_15, ec, hW]
  cases hq : (nm T t 23 q1).2 with
  | true =>
    have eX : wnX T t q1 = nm T t 23 q1 := wq_wr hq _
    have eR : wnR T t q1 = nm T t 23 q1 := by
      unfold wnR
      rw [if_neg (fun c => absurd (c.1.symm.trans hq) (by decide)), eX]
    have w3 : g2 103 16 = b2i true := by rw [← hq]; exact C4.2.2.2
    refine ⟨g2, fin _ [.ref 103, .int (g2 103 15), .int 1] g2 rfl ?_, fun x h1 _ => E2 x h1, Y2, by rw [eR]; exact C4, fun y _ => by rw [E2 104 (by omega)], fun c => ?_⟩
    · obtain ⟨m, hm⟩ : ∃ m, FU = m + 1 := ⟨FU - 1, by unfold FU; omega⟩
      unfold W_X7_windItem_1
      rw [hm]
      exact while_end (wi_cond g2 _ 1 true w3)
    · rw [eR] at c; exact absurd (c.symm.trans hq) (by decide)
  | false =>
    have a23 := nm_most hq
    have ea := C5 hq
    obtain ⟨Lf, g, L1, L2, L3, L4, L5, L6⟩ := X7_windLoop g2 (a := nN T t q1.1) C4 hq a23
    refine ⟨g, fin _ Lf g ea L1, fun x h1 h2 => by rw [L2 x h1 h2]; exact E2 x h1, fun y hy => by rw [L3 y hy]; exact Y2 y hy, ?_, fun y hy => by rw [L4 y hy, E2 104 (by omega)], fun c => ?_⟩
    · unfold wnR
      by_cases cc : (nm T t 23 q1).2 = false ∧ (wnX T t q1).2 = false ∧ tK T t (wnX T t q1).1 = 2
      · rw [if_pos cc]; exact L5 cc.2
      · rw [if_neg cc]; exact (L6 (fun r => cc ⟨hq, r⟩)).1
    · unfold wnR at c
      by_cases cc : (nm T t 23 q1).2 = false ∧ (wnX T t q1).2 = false ∧ tK T t (wnX T t q1).1 = 2
      · rw [if_pos cc] at c; exact tf_no c
      · rw [if_neg cc] at c
        rw [(L6 (fun r => cc ⟨hq, r⟩)).2 c, E2 104 (by omega)]
