/-! a cursor on the tape: where the token at hand was looked for, and whether something was wrong -/
noncomputable def tS (T : Nat → Nat) (t p : Nat) : Nat := (tok T t p).1
noncomputable def tE (T : Nat → Nat) (t p : Nat) : Nat := (tok T t p).2.1
noncomputable def tK (T : Nat → Nat) (t p : Nat) : Nat := (tok T t p).2.2
theorem tk_ok (T : Nat → Nat) {t p : Nat} (h : p ≤ t) : TOK T t p (tS T t p) (tE T t p) (tK T t p) := tok_ok T h
theorem srt_le (b : Nat) : 1 ≤ srt b ∧ srt b ≤ 4 := by unfold srt; split <;> (try split) <;> (try split) <;> omega
theorem tk_b (T : Nat → Nat) {t p : Nat} (h : p ≤ t) : tS T t p ≤ tE T t p ∧ tE T t p ≤ t ∧ tK T t p ≤ 4 := by
  obtain ⟨⟨a, b⟩, c, d, e⟩ := tk_ok T h
  rcases e with ⟨e1, e2, e3⟩ | ⟨e1, e2, e3, e4, e5, e6⟩
  · omega
  · have := srt_le (T (tS T t p))
    omega
def cuX (g : FN) (T : Nat → Nat) (t p : Nat) (w : Bool) : Prop := p ≤ t ∧ TPX g T t ∧ TKX g (tS T t p) (tE T t p) (tK T t p) ∧ g 78 2 = if w then nI (tS T t p) else -1
noncomputable def wB (T : Nat → Nat) (t p : Nat) (ws : List Nat) : Bool := wEq T (tS T t p) (tE T t p) (tK T t p) ws
noncomputable def nd (T : Nat → Nat) (t : Nat) (b : Bool) (q : Nat × Bool) : Nat × Bool := if q.2 then q else if b then (tE T t q.1, false) else (q.1, true)
theorem cuX.fault {g : FN} {T : Nat → Nat} {t p : Nat} {w : Bool} (h : cuX g T t p w) : (0 ≤ g 78 2) = (w = true) := by
  obtain ⟨a, b, c, d⟩ := h
  rw [d]
  cases w with
  | true => exact propext ⟨fun _ => rfl, fun _ => nI_pos' (by have := tk_b T a; have := b.2.1; omega)⟩
  | false =>
    rw [if_neg (by simp)]
    exact propext ⟨fun q => absurd q (by decide), fun q => by cases q⟩
theorem X4_nextC (f : FN) {T : Nat → Nat} {t p : Nat} (h : cuX f T t p false) : ∃ g, D_X4_next [.ref 78] (memOf f) = some (.null, memOf g) ∧ (∀ x, x ≠ 78 → g x = f x) ∧ cuX g T t (tE T t p) false := by
  obtain ⟨a, b, c, d⟩ := h
  have hb := tk_b T a
  obtain ⟨g, A1, A2, A3, A4, A5, A6, A7⟩ := X4_next f b c.2.2 (tk_ok T (show tE T t p ≤ t from hb.2.1))
  exact ⟨g, A1, A2, hb.2.1, ⟨by rw [A3]; exact b.1, b.2.1, fun i hi => by rw [A2 79 (by omega)]; exact b.2.2 i hi⟩, ⟨A5, A6, A7⟩, by rw [A4]; exact d⟩
theorem X4_failC (f : FN) {T : Nat → Nat} {t p : Nat} {w : Bool} (h : cuX f T t p w) : ∃ g, D_X4_fail [.ref 78] (memOf f) = some (.null, memOf g) ∧ (∀ x, x ≠ 78 → g x = f x) ∧ cuX g T t p true := by
  have hf := h.fault
  obtain ⟨a, b, c, d⟩ := h
  cases w with
  | true =>
    refine ⟨f, X4_fail_yes f (Int32.not_lt.mpr (hf ▸ rfl)), fun _ _ => rfl, a, b, c, d⟩
  | false =>
    have hn : f 78 2 < 0 := by rw [d, if_neg (by simp)]; decide
    refine ⟨_, X4_fail_no f hn, fun x hx => row_ne _ _ hx, a, ⟨?_, b.2.1, fun i hi => ?_⟩, ⟨?_, ?_, ?_⟩, ?_⟩
    · rw [row_self, upd_ne _ _ (by omega)]; exact b.1
    · rw [row_ne _ _ (by omega)]; exact b.2.2 i hi
    · rw [row_self, upd_ne _ _ (by omega)]; exact c.1
    · rw [row_self, upd_ne _ _ (by omega)]; exact c.2.1
    · rw [row_self, upd_ne _ _ (by omega)]; exact c.2.2
    · rw [row_self, upd_self]; exact c.2.1
theorem X4_passWord (f : FN) {T : Nat → Nat} {t p id : Nat} {w : Bool} {ws : List Nat} (h : cuX f T t p w) (hw : isWd id ws) : ∃ g, D_X4_passWord [.ref 78, .ref id] (memOf f) = some (.int (b2i (!w && wB T t p ws)), memOf g) ∧ (∀ x, x ≠ 78 → g x = f x) ∧ (if (!w && wB T t p ws) = true then cuX g T t (tE T t p) false else cuX g T t p w) := by
  have hf := h.fault
  have iw := X4_isWord f h.2.1 h.2.2.1 (tk_b T h.1) hw
  have iw' : D_X4_isWord [.ref 78, .ref id] (memOf f) = some (.int (b2i (wB T t p ws)), memOf f) := iw
  have ha := X4_hasFault f
  cases w with
  | true =>
    have c : (0 ≤ f 78 2) = True := by rw [hf]; simp
    refine ⟨f, ?_, fun _ _ => rfl, ?_⟩
    · simp [D_X4_passWord, S_X4_passWord, m_den, l0, Value.category, s_seq, s_if, s_st, s_ret, s_retz, s_retv, s_skip, s_sc, s_inc, s_call, e_c, e_li, e_lr, e_lj, e_un, e_bin, e_if, e_b, b_not, b_and, b_or, b_of, e_call, a_recv, a_snoc, a_nil, prI, prJ, prR, e_gi, e_gr, e_ai, e_ar, s_as, s_aop, s_pf, s_pfz, s_fop, l_set, l_ok, e_div, e_rem, e_len, s_tab, rc_78, ha, c, b2i]
    · simp only [Bool.not_true, Bool.false_and, Bool.false_eq_true, if_false]; exact h
  | false =>
    have c : (0 ≤ f 78 2) = False := by rw [hf]; simp
    cases q : wB T t p ws with
    | true =>
      rw [q] at iw'
      obtain ⟨g, A1, A2, A3⟩ := X4_nextC f h
      refine ⟨g, ?_, A2, ?_⟩
      · simp [D_X4_passWord, S_X4_passWord, m_den, l0, Value.category, s_seq, s_if, s_st, s_ret, s_retz, s_retv, s_skip, s_sc, s_inc, s_call, e_c, e_li, e_lr, e_lj, e_un, e_bin, e_if, e_b, b_not, b_and, b_or, b_of, e_call, a_recv, a_snoc, a_nil, prI, prJ, prR, e_gi, e_gr, e_ai, e_ar, s_as, s_aop, s_pf, s_pfz, s_fop, l_set, l_ok, e_div, e_rem, e_len, s_tab, rc_78, ha, c, iw', A1, b2i]
      · simp only [Bool.not_false, Bool.true_and, if_true]; exact A3
    | false =>
      rw [q] at iw'
      refine ⟨f, ?_, fun _ _ => rfl, ?_⟩
      · simp [D_X4_passWord, S_X4_passWord, m_den, l0, Value.category, s_seq, s_if, s_st, s_ret, s_retz, s_retv, s_skip, s_sc, s_inc, s_call, e_c, e_li, e_lr, e_lj, e_un, e_bin, e_if, e_b, b_not, b_and, b_or, b_of, e_call, a_recv, a_snoc, a_nil, prI, prJ, prR, e_gi, e_gr, e_ai, e_ar, s_as, s_aop, s_pf, s_pfz, s_fop, l_set, l_ok, e_div, e_rem, e_len, s_tab, rc_78, ha, c, iw', b2i]
      · simp only [Bool.not_false, Bool.true_and, Bool.false_eq_true, if_false]; exact h
theorem X4_passSign (f : FN) {T : Nat → Nat} {t p : Nat} {w : Bool} (h : cuX f T t p w) : ∃ g, D_X4_passSign [.ref 78] (memOf f) = some (.int (b2i (!w && decide (tK T t p = 3))), memOf g) ∧ (∀ x, x ≠ 78 → g x = f x) ∧ (if (!w && decide (tK T t p = 3)) = true then cuX g T t (tE T t p) false else cuX g T t p w) := by
  have hf := h.fault
  have ha := X4_hasFault f
  have hk := (tk_b T h.1).2.2
  have k3 := h.2.2.1.1
  have q3 : (nI (tK T t p) = (3 : Int32)) = (tK T t p = 3) := propext (nI_inj (a := tK T t p) (b := 3) (by omega) (by omega))
  cases w with
  | true =>
    have c : (0 ≤ f 78 2) = True := by rw [hf]; simp
    refine ⟨f, ?_, fun _ _ => rfl, ?_⟩
    · simp [D_X4_passSign, S_X4_passSign, m_den, l0, Value.category, s_seq, s_if, s_st, s_ret, s_retz, s_retv, s_skip, s_sc, s_inc, s_call, e_c, e_li, e_lr, e_lj, e_un, e_bin, e_if, e_b, b_not, b_and, b_or, b_of, e_call, a_recv, a_snoc, a_nil, prI, prJ, prR, e_gi, e_gr, e_ai, e_ar, s_as, s_aop, s_pf, s_pfz, s_fop, l_set, l_ok, e_div, e_rem, e_len, s_tab, rc_78, ha, c, b2i]
    · simp only [Bool.not_true, Bool.false_and, Bool.false_eq_true, if_false]; exact h
  | false =>
    have c : (0 ≤ f 78 2) = False := by rw [hf]; simp
    by_cases q : tK T t p = 3
    · have q' := eq_true q
      obtain ⟨g, A1, A2, A3⟩ := X4_nextC f h
      refine ⟨g, ?_, A2, ?_⟩
      · simp [D_X4_passSign, S_X4_passSign, m_den, l0, Value.category, s_seq, s_if, s_st, s_ret, s_retz, s_retv, s_skip, s_sc, s_inc, s_call, e_c, e_li, e_lr, e_lj, e_un, e_bin, e_if, e_b, b_not, b_and, b_or, b_of, e_call, a_recv, a_snoc, a_nil, prI, prJ, prR, e_gi, e_gr, e_ai, e_ar, s_as, s_aop, s_pf, s_pfz, s_fop, l_set, l_ok, e_div, e_rem, e_len, s_tab, rc_78, ha, c, g_78_3, k3, q3, q', A1, b2i]
      · rw [decide_eq_true q]; simp only [Bool.not_false, Bool.true_and, if_true]; exact A3
    · refine ⟨f, ?_, fun _ _ => rfl, ?_⟩
      · simp [D_X4_passSign, S_X4_passSign, m_den, l0, Value.category, s_seq, s_if, s_st, s_ret, s_retz, s_retv, s_skip, s_sc, s_inc, s_call, e_c, e_li, e_lr, e_lj, e_un, e_bin, e_if, e_b, b_not, b_and, b_or, b_of, e_call, a_recv, a_snoc, a_nil, prI, prJ, prR, e_gi, e_gr, e_ai, e_ar, s_as, s_aop, s_pf, s_pfz, s_fop, l_set, l_ok, e_div, e_rem, e_len, s_tab, rc_78, ha, c, g_78_3, k3, q3, q, b2i]
      · rw [decide_eq_false q]; simp only [Bool.not_false, Bool.true_and, Bool.false_eq_true, if_false]; exact h
theorem X4_needWord (f : FN) {T : Nat → Nat} {t p id : Nat} {w : Bool} {ws : List Nat} (h : cuX f T t p w) (hw : isWd id ws) : ∃ g, D_X4_needWord [.ref 78, .ref id] (memOf f) = some (.null, memOf g) ∧ (∀ x, x ≠ 78 → g x = f x) ∧ cuX g T t (nd T t (wB T t p ws) (p, w)).1 (nd T t (wB T t p ws) (p, w)).2 := by
  obtain ⟨g, A1, A2, A3⟩ := X4_passWord f h hw
  unfold nd
  cases w with
  | true =>
    simp only [Bool.not_true, Bool.false_and, Bool.false_eq_true, if_false] at A1 A3
    obtain ⟨g2, B1, B2, B3⟩ := X4_failC g A3
    refine ⟨g2, ?_, fun x hx => by rw [B2 x hx, A2 x hx], ?_⟩
    · simp [D_X4_needWord, S_X4_needWord, m_den, l0, Value.category, s_seq, s_if, s_st, s_ret, s_retz, s_retv, s_skip, s_sc, s_inc, s_call, e_c, e_li, e_lr, e_lj, e_un, e_bin, e_if, e_b, b_not, b_and, b_or, b_of, e_call, a_recv, a_snoc, a_nil, prI, prJ, prR, e_gi, e_gr, e_ai, e_ar, s_as, s_aop, s_pf, s_pfz, s_fop, l_set, l_ok, e_div, e_rem, e_len, s_tab, rc_78, A1, b2i, B1]
    · simp only [if_true]; exact B3
  | false =>
    cases q : wB T t p ws with
    | true =>
      rw [q] at A1 A3
      simp only [Bool.not_false, Bool.true_and, if_true] at A1 A3
      refine ⟨g, ?_, A2, ?_⟩
      · simp [D_X4_needWord, S_X4_needWord, m_den, l0, Value.category, s_seq, s_if, s_st, s_ret, s_retz, s_retv, s_skip, s_sc, s_inc, s_call, e_c, e_li, e_lr, e_lj, e_un, e_bin, e_if, e_b, b_not, b_and, b_or, b_of, e_call, a_recv, a_snoc, a_nil, prI, prJ, prR, e_gi, e_gr, e_ai, e_ar, s_as, s_aop, s_pf, s_pfz, s_fop, l_set, l_ok, e_div, e_rem, e_len, s_tab, rc_78, A1, b2i]
      · simp only [Bool.false_eq_true, if_false, if_true]; exact A3
    | false =>
      rw [q] at A1 A3
      simp only [Bool.not_false, Bool.true_and, Bool.false_eq_true, if_false] at A1 A3
      obtain ⟨g2, B1, B2, B3⟩ := X4_failC g A3
      refine ⟨g2, ?_, fun x hx => by rw [B2 x hx, A2 x hx], ?_⟩
      · simp [D_X4_needWord, S_X4_needWord, m_den, l0, Value.category, s_seq, s_if, s_st, s_ret, s_retz, s_retv, s_skip, s_sc, s_inc, s_call, e_c, e_li, e_lr, e_lj, e_un, e_bin, e_if, e_b, b_not, b_and, b_or, b_of, e_call, a_recv, a_snoc, a_nil, prI, prJ, prR, e_gi, e_gr, e_ai, e_ar, s_as, s_aop, s_pf, s_pfz, s_fop, l_set, l_ok, e_div, e_rem, e_len, s_tab, rc_78, A1, b2i, B1]
      · simp only [Bool.false_eq_true, if_false]; exact B3
