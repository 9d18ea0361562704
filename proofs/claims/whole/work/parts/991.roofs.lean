/-! roof items -/
noncomputable def nm (T : Nat → Nat) (t most : Nat) (q : Nat × Bool) : Nat × Bool := nd T t (nK T t q.1 most) q
noncomputable def nw (T : Nat → Nat) (t : Nat) (ws : List Nat) (q : Nat × Bool) : Nat × Bool := nd T t (wB T t q.1 ws) q
theorem nd_ok {T : Nat → Nat} {t : Nat} {b : Bool} {q : Nat × Bool} (h : (nd T t b q).2 = false) : q.2 = false ∧ b = true := by
  unfold nd at h
  cases h1 : q.2 with
  | true => rw [h1] at h; simp only [if_true] at h; rw [h1] at h; exact absurd h (by decide)
  | false =>
    rw [h1] at h
    cases b with
    | true => exact ⟨rfl, rfl⟩
    | false => simp at h
theorem nd_wr {T : Nat → Nat} {t : Nat} {b : Bool} {q : Nat × Bool} (h : q.2 = true) : nd T t b q = q := by
  unfold nd; rw [h]; rfl
noncomputable def rfP (T : Nat → Nat) (t : Nat) (q : Nat × Bool) : Nat × Bool := nm T t 5 (nw T t w_of (nm T t 35 q))
theorem X4_needNumber' (f : FN) {T : Nat → Nat} {t most : Nat} {q : Nat × Bool} (h : cuX f T t q.1 q.2) (hm : most ≤ 99) : ∃ (v : Nat) (g : FN), D_X4_needNumber [.ref 78, .int (nI most)] (memOf f) = some (.int (nI v), memOf g) ∧ (∀ x, x ≠ 78 → g x = f x) ∧ cuX g T t (nm T t most q).1 (nm T t most q).2 ∧ v ≤ most ∧ ((nm T t most q).2 = false → v = nN T t q.1) := by
  obtain ⟨g, A1, A2, A3⟩ := X4_needNumber f h hm
  refine ⟨_, g, A1, A2, A3, ?_, fun hq => ?_⟩
  · by_cases c : (!q.2 && nK T t q.1 most) = true
    · rw [if_pos c]
      have := (Bool.and_eq_true _ _ ▸ c : _ ∧ _).2
      exact (of_decide_eq_true this).2
    · rw [if_neg c]; omega
  · obtain ⟨a, b⟩ := nd_ok (b := nK T t q.1 most) hq
    rw [a, b]; rfl
theorem X4_needWord' (f : FN) {T : Nat → Nat} {t id : Nat} {q : Nat × Bool} {ws : List Nat} (h : cuX f T t q.1 q.2) (hw : isWd id ws) : ∃ g, D_X4_needWord [.ref 78, .ref id] (memOf f) = some (.null, memOf g) ∧ (∀ x, x ≠ 78 → g x = f x) ∧ cuX g T t (nw T t ws q).1 (nw T t ws q).2 := X4_needWord f h hw
theorem X1_readRoof (f : FN) {T : Nat → Nat} {t : Nat} {q : Nat × Bool} (h : cuX f T t q.1 q.2) (sure : Bool) (hs : f 77 1 = b2i sure) : ∃ (a v : Nat) (g : FN), D_X1_readRoof [.ref 77, .ref 1] (memOf f) = some (.null, memOf g) ∧ (∀ x, x ≠ 78 → g x = (if sure then row f 2 (upd (f 2) a (nI v)) else f) x) ∧ cuX g T t (rfP T t q).1 (rfP T t q).2 ∧ a < 36 ∧ v ≤ 5 ∧ ((rfP T t q).2 = false → a = nN T t q.1 ∧ v = nN T t (nw T t w_of (nm T t 35 q)).1) := by
  obtain ⟨a, g1, A1, A2, A3, A4, A5⟩ := X4_needNumber' f (most := 35) h (by omega)
  obtain ⟨g2, B1, B2, B3⟩ := X4_needWord' g1 (q := nm T t 35 q) A3 iw_of
  obtain ⟨v, g3, C1, C2, C3, C4, C5⟩ := X4_needNumber' g2 (q := nw T t w_of (nm T t 35 q)) (most := 5) B3 (by omega)
  have A1' : D_X4_needNumber [.ref 78, .int 35] (memOf f) = some (.int (nI a), memOf g1) := A1
  have C1' : D_X4_needNumber [.ref 78, .int 5] (memOf g2) = some (.int (nI v), memOf g3) := C1
  have e3 : ∀ x, x ≠ 78 → g3 x = f x := fun x hx => by rw [C2 x hx, B2 x hx, A2 x hx]
  have s3 : g3 77 1 = b2i sure := by rw [e3 77 (by omega)]; exact hs
  have vals : (rfP T t q).2 = false → a = nN T t q.1 ∧ v = nN T t (nw T t w_of (nm T t 35 q)).1 := fun hq => by
    refine ⟨A5 ?_, C5 hq⟩
    exact (nd_ok (nd_ok hq).1).1
  have B1' : D_X4_needWord [.ref 78, .ref (SPB + 102)] (memOf g1) = some (.null, memOf g2) := B1
  cases sure with
  | false =>
    refine ⟨a, v, g3, ?_, fun x hx => e3 x hx, C3, by omega, C4, vals⟩
    simp [D_X1_readRoof, S_X1_readRoof, m_den, l0, Value.category, s_seq, s_if, s_st, s_ret, s_retz, s_retv, s_skip, s_sc, s_inc, s_call, e_c, e_li, e_lr, e_lj, e_un, e_bin, e_if, e_b, b_not, b_and, b_or, b_of, e_call, a_recv, a_snoc, a_nil, prI, prJ, prR, e_gi, e_gr, e_ai, e_ar, s_as, s_aop, s_pf, s_pfz, s_fop, l_set, l_ok, e_div, e_rem, e_len, s_tab, g_77_0, rc_78, A1', B1, B1', C1', g_77_1, s3, b2i]
  | true =>
    refine ⟨a, v, row g3 2 (upd (g3 2) a (nI v)), ?_, fun x hx => ?_, ?_, by omega, C4, vals⟩
    · simp [D_X1_readRoof, S_X1_readRoof, m_den, l0, Value.category, s_seq, s_if, s_st, s_ret, s_retz, s_retv, s_skip, s_sc, s_inc, s_call, e_c, e_li, e_lr, e_lj, e_un, e_bin, e_if, e_b, b_not, b_and, b_or, b_of, e_call, a_recv, a_snoc, a_nil, prI, prJ, prR, e_gi, e_gr, e_ai, e_ar, s_as, s_aop, s_pf, s_pfz, s_fop, l_set, l_ok, e_div, e_rem, e_len, s_tab, g_77_0, rc_78, A1', B1, B1', C1', g_77_1, s3, b2i, g_1_3, wr_2 g3 (show a < 36 by omega)]
    · simp only [if_true]
      by_cases c : x = 2
      · subst c; rw [row_self, row_self, e3 2 (by omega)]
      · rw [row_ne _ _ c, row_ne _ _ c, e3 x hx]
    · obtain ⟨c1, c2, c3, c4⟩ := C3
      have r78 : row g3 2 (upd (g3 2) a (nI v)) 78 = g3 78 := row_ne _ _ (by omega)
      have r79 : row g3 2 (upd (g3 2) a (nI v)) 79 = g3 79 := row_ne _ _ (by omega)
      exact ⟨c1, by unfold TPX at c2 ⊢; rw [r78, r79]; exact c2, by unfold TKX at c3 ⊢; rw [r78]; exact c3, by rw [r78]; exact c4⟩
