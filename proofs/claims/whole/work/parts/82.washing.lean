/-! washing agrees -/
theorem wsh_ex (F D : Nat → Int32) (s : Nat) : (wsh F D s).1 = -1 ∨ ∃ t, t < s ∧ (wsh F D s).1 = nI t := by
  induction s with
  | zero => exact Or.inl rfl
  | succ s ih =>
    unfold wsh
    split
    · exact Or.inr ⟨s, by omega, rfl⟩
    · rcases ih with e | ⟨t, h1, h2⟩
      · exact Or.inl e
      · exact Or.inr ⟨t, by omega, h2⟩
theorem wsh_yes {F D : Nat → Int32} {s : Nat} (h1 : (wsh F D s).2 < F s) (h2 : D s = 0) : wsh F D (s + 1) = (nI s, F s) := by
  show (if (wsh F D s).2 < F s ∧ D s = 0 then (nI s, F s) else wsh F D s) = _
  rw [if_pos ⟨h1, h2⟩]
theorem wsh_no {F D : Nat → Int32} {s : Nat} (h : ¬ ((wsh F D s).2 < F s ∧ D s = 0)) : wsh F D (s + 1) = wsh F D s := by
  show (if (wsh F D s).2 < F s ∧ D s = 0 then (nI s, F s) else wsh F D s) = _
  rw [if_neg h]
theorem X6_washing_W (f : FN) {m : Nat} {TRS : Nat → Nat → Nat} {Q : Nat → SMK} (sp : SP f m TRS Q) (hm : m ≤ 8) (em : f 1 2 = nI m) {lit out : Nat → Nat} (hd : ∀ c, c < m → f 91 c = nI (lit c) ∧ f 92 c = nI (out c)) (o n : Int32) {F D : Nat → Int32} (eF : F = fun s => nI (fiW TRS m s)) (eD : D = fun s => nI (csI m (fun k => if hasB s k then lit k else out k))) : W_X6_washing_1 [.ref 0, .int o, .int n, .int (-1), .int (-1), .int (nI (2 ^ m)), .int 0] (memOf f) = some (.inl ([.ref 0, .int o, .int n, .int (wsh F D (2 ^ m)).1, .int (wsh F D (2 ^ m)).2, .int (nI (2 ^ m)), .int (nI (2 ^ m))], memOf f)) := by
  have p2 := (pow_fin ⟨m, by omega⟩).2
  simp only at p2
  have key := while_count (b := WB_X6_washing_1) (s := WS_X6_washing_1) (fun s => ([.ref 0, .int o, .int n, .int (wsh F D s).1, .int (wsh F D s).2, .int (nI (2 ^ m)), .int (nI s)], memOf f)) (2 ^ m) (by unfold FU; omega) (fun s hs => ?_) (fun s hs => ?_) ?_
  · exact key
  · have e : nI s < nI (2 ^ m) := (nI_lt_iff (by omega) (by omega)).mpr hs
    simp [WB_X6_washing_1, m_den, l0, Value.category, s_seq, s_if, s_st, s_ret, s_retz, s_retv, s_skip, s_sc, s_inc, s_call, e_c, e_li, e_lr, e_lj, e_un, e_bin, e_if, e_b, b_not, b_and, b_or, b_of, e_call, a_recv, a_snoc, a_nil, prI, prJ, prR, e_gi, e_gr, e_ai, e_ar, s_as, s_aop, s_pf, s_pfz, s_fop, l_set, l_ok, e_div, e_rem, e_len, s_tab, e]
  · have fo := X6_fireOf f sp hm em (s := s) (by omega)
    have dw := X6_dirtWith f hm em (nI s)
    have e1 : sumI m (fun c => if bitI (nI s) (nI c) = 1 then f 91 c else f 92 c) = D s := by
      rw [eD]
      refine sumI_nI (fun c hc => ?_)
      unfold hasB
      by_cases q : bitI (nI s) (nI c) = 1
      · rw [if_pos q, if_pos (decide_eq_true q)]; exact (hd c hc).1
      · rw [if_neg q, if_neg (by rw [decide_eq_true_iff]; exact q)]; exact (hd c hc).2
    rw [e1] at dw
    have e2 : nI (fiW TRS m s) = F s := by rw [eF]
    rw [e2] at fo
    by_cases c1 : (wsh F D s).2 < F s
    · by_cases c2 : D s = 0
      · have c2' := eq_true c2
        rw [wsh_yes c1 c2]
        simp [WS_X6_washing_1, m_den, l0, Value.category, s_seq, s_if, s_st, s_ret, s_retz, s_retv, s_skip, s_sc, s_inc, s_call, e_c, e_li, e_lr, e_lj, e_un, e_bin, e_if, e_b, b_not, b_and, b_or, b_of, e_call, a_recv, a_snoc, a_nil, prI, prJ, prR, e_gi, e_gr, e_ai, e_ar, s_as, s_aop, s_pf, s_pfz, s_fop, l_set, l_ok, e_div, e_rem, e_len, s_tab, rc_0, fo, dw, c1, c2', nI_next]
      · rw [wsh_no (fun q => c2 q.2)]
        simp [WS_X6_washing_1, m_den, l0, Value.category, s_seq, s_if, s_st, s_ret, s_retz, s_retv, s_skip, s_sc, s_inc, s_call, e_c, e_li, e_lr, e_lj, e_un, e_bin, e_if, e_b, b_not, b_and, b_or, b_of, e_call, a_recv, a_snoc, a_nil, prI, prJ, prR, e_gi, e_gr, e_ai, e_ar, s_as, s_aop, s_pf, s_pfz, s_fop, l_set, l_ok, e_div, e_rem, e_len, s_tab, rc_0, fo, dw, c1, c2, nI_next]
    · rw [wsh_no (fun q => c1 q.1)]
      simp [WS_X6_washing_1, m_den, l0, Value.category, s_seq, s_if, s_st, s_ret, s_retz, s_retv, s_skip, s_sc, s_inc, s_call, e_c, e_li, e_lr, e_lj, e_un, e_bin, e_if, e_b, b_not, b_and, b_or, b_of, e_call, a_recv, a_snoc, a_nil, prI, prJ, prR, e_gi, e_gr, e_ai, e_ar, s_as, s_aop, s_pf, s_pfz, s_fop, l_set, l_ok, e_div, e_rem, e_len, s_tab, rc_0, fo, c1, nI_next]
  · have e : ¬ nI (2 ^ m) < nI (2 ^ m) := Int32.lt_irrefl
    simp [WB_X6_washing_1, m_den, l0, Value.category, s_seq, s_if, s_st, s_ret, s_retz, s_retv, s_skip, s_sc, s_inc, s_call, e_c, e_li, e_lr, e_lj, e_un, e_bin, e_if, e_b, b_not, b_and, b_or, b_of, e_call, a_recv, a_snoc, a_nil, prI, prJ, prR, e_gi, e_gr, e_ai, e_ar, s_as, s_aop, s_pf, s_pfz, s_fop, l_set, l_ok, e_div, e_rem, e_len, s_tab, e]
theorem X7_washing_W (f : FN) {m : Nat} {TRS : Nat → Nat → Nat} {ro : Nat → Option Nat} {wd : Nat → Nat} {Q : Nat → SMK} {bo : Nat → Int} {h : Nat} (w : TW f m TRS ro wd Q bo h) (h6 : ∀ y, y < 735 → f 106 y = f 104 y) {o n : Nat} (ho : o < 6) (hN : h + n ≤ 9999) {F D : Nat → Int32} (eF : F = fun s => nI (fiW TRS m s)) (eD : D = fun s => nI (csI m (fun k => if hasB s k then gD (TRS k) wd ro h (Q k) n o else gD (updN (TRS k) 6 0) wd ro h (Q k) n o))) : ∃ g, W_X7_washing_3 [.ref 103, .int (nI o), .int (nI n), .int (-1), .int (-1), .int 0] (memOf f) = some (.inl ([.ref 103, .int (nI o), .int (nI n), .int (wsh F D (2 ^ m)).1, .int (wsh F D (2 ^ m)).2, .int (nI (2 ^ m))], memOf g)) ∧ (∀ x, x ≠ 103 → x ≠ 108 → x ≠ 109 → g x = f x) ∧ ∀ y, y ≠ 9 → g 103 y = f 103 y := by
  have hAl := w.A_le
  have m8 := w.2.1.1.2
  obtain ⟨⟨b1, b2, b3, b4⟩, hS, sp, ro', wd', bk', tk, bn⟩ := id w
  obtain ⟨p1, p2⟩ := pow_fin ⟨m, by omega⟩
  simp only at p1 p2
  have key := while_rel (b := WB_X7_washing_3) (s := WS_X7_washing_3) (fun s => [.ref 103, .int (nI o), .int (nI n), .int (wsh F D s).1, .int (wsh F D s).2, .int (nI s)]) (fun s g => (∀ x, x ≠ 103 → x ≠ 108 → x ≠ 109 → g x = f x) ∧ ∀ y, y ≠ 9 → g 103 y = f 103 y) (2 ^ m) (by unfold FU; omega) (fun s g hs hI => ?_) (fun s g hs hI => ?_) (fun g hI => ?_) (f := f) ⟨fun _ _ _ _ => rfl, fun _ _ => rfl⟩
  · exact key
  · have e1 : g 104 1 = nI m := by rw [hI.1 104 (by omega) (by omega) (by omega)]; exact hS.1.1
    have e : nI s < nI (2 ^ m) := (nI_lt_iff (by omega) (by omega)).mpr hs
    simp [WB_X7_washing_3, m_den, l0, Value.category, s_seq, s_if, s_st, s_ret, s_retz, s_retv, s_skip, s_sc, s_inc, s_call, e_c, e_li, e_lr, e_lj, e_un, e_bin, e_if, e_b, b_not, b_and, b_or, b_of, e_call, a_recv, a_snoc, a_nil, prI, prJ, prR, e_gi, e_gr, e_ai, e_ar, s_as, s_aop, s_pf, s_pfz, s_fop, l_set, l_ok, e_div, e_rem, e_len, s_tab, g_103_0, rd_104_1, e1, p1, e]
  · obtain ⟨I1, I2⟩ := hI
    have e4 := I1 104 (by omega) (by omega) (by omega)
    have hSg : HSt (g 104) m TRS ro wd := by rw [e4]; exact hS
    have W1 := X7_washing_W1 g (s := s) (TRS := TRS) (fun k hk => (hSg.2.1 k hk).1) m8 hSg.1.1 (by omega) (nI o) (nI n) (wsh F D s).1 (wsh F D s).2
    have e2 : nI (fiW TRS m s) = F s := by rw [eF]
    rw [e2] at W1
    by_cases c1 : (wsh F D s).2 < F s
    · obtain ⟨g1, A1, A2, A3, A4⟩ := X7_washing_W2 g hSg (s := s) (by omega) (nI o) (nI n) (wsh F D s).1 (wsh F D s).2 (F s)
      obtain ⟨g2, P1, P2, P3, P4⟩ := X7_dirtIn g1 (n := n) (o := o) (Q := Q) (s0 := f 104) (h := h) A4 (by rw [A3 0 (by omega), e4]; exact b2) (fun x hx => by
        refine ((sp x hx).1).sig (fun y hy => ?_)
        rw [A3 y (by unfold inCh at hy; omega), e4]) hAl hN (fun y hy => by rw [A2 106 (by omega), I1 106 (by omega) (by omega) (by omega)]; exact h6 y hy) (fun y hy => by rw [A3 y (by omega), e4]) ho
      have e3 : nI (csI n (fun i => csI m (fun k => nD (trW TRS s) wd ro h Q i k o))) = D s := by
        rw [eD, csI_swap]
        congr 1
        refine csI_congr (fun k _ => ?_)
        show gD (trW TRS s k) wd ro h (Q k) n o = _
        unfold trW
        cases hasB s k with
        | true => simp only [if_true]; rw [updN_same]
        | false => simp only [Bool.false_eq_true, if_false]
      rw [e3] at P1
      have fr : ∀ x, x ≠ 103 → x ≠ 108 → x ≠ 109 → g2 x = f x := fun x c1 c2 c3 => by
        by_cases c : x = 104
        · subst c; exact P2
        · rw [P3 x c1 c c2 c3, A2 x c]; exact I1 x c1 c2 c3
      have fr2 : ∀ y, y ≠ 9 → g2 103 y = f 103 y := fun y hy => by rw [P4 y hy, A2 103 (by omega)]; exact I2 y hy
      by_cases c2 : D s = 0
      · have c2' := eq_true c2
        refine ⟨g2, ?_, fr, fr2⟩
        rw [wsh_yes c1 c2]
        simp [WS_X7_washing_3, m_den, l0, Value.category, s_seq, s_if, s_st, s_ret, s_retz, s_retv, s_skip, s_sc, s_inc, s_call, e_c, e_li, e_lr, e_lj, e_un, e_bin, e_if, e_b, b_not, b_and, b_or, b_of, e_call, a_recv, a_snoc, a_nil, prI, prJ, prR, e_gi, e_gr, e_ai, e_ar, s_as, s_aop, s_pf, s_pfz, s_fop, l_set, l_ok, e_div, e_rem, e_len, s_tab, W1, c1, A1, rc_103, P1, c2', nI_next]
      · refine ⟨g2, ?_, fr, fr2⟩
        rw [wsh_no (fun q => c2 q.2)]
        simp [WS_X7_washing_3, m_den, l0, Value.category, s_seq, s_if, s_st, s_ret, s_retz, s_retv, s_skip, s_sc, s_inc, s_call, e_c, e_li, e_lr, e_lj, e_un, e_bin, e_if, e_b, b_not, b_and, b_or, b_of, e_call, a_recv, a_snoc, a_nil, prI, prJ, prR, e_gi, e_gr, e_ai, e_ar, s_as, s_aop, s_pf, s_pfz, s_fop, l_set, l_ok, e_div, e_rem, e_len, s_tab, W1, c1, A1, rc_103, P1, c2, nI_next]
    · refine ⟨g, ?_, I1, I2⟩
      rw [wsh_no (fun q => c1 q.1)]
      simp [WS_X7_washing_3, m_den, l0, Value.category, s_seq, s_if, s_st, s_ret, s_retz, s_retv, s_skip, s_sc, s_inc, s_call, e_c, e_li, e_lr, e_lj, e_un, e_bin, e_if, e_b, b_not, b_and, b_or, b_of, e_call, a_recv, a_snoc, a_nil, prI, prJ, prR, e_gi, e_gr, e_ai, e_ar, s_as, s_aop, s_pf, s_pfz, s_fop, l_set, l_ok, e_div, e_rem, e_len, s_tab, W1, c1, nI_next]
  · have e1 : g 104 1 = nI m := by rw [hI.1 104 (by omega) (by omega) (by omega)]; exact hS.1.1
    have e : ¬ nI (2 ^ m) < nI (2 ^ m) := Int32.lt_irrefl
    simp [WB_X7_washing_3, m_den, l0, Value.category, s_seq, s_if, s_st, s_ret, s_retz, s_retv, s_skip, s_sc, s_inc, s_call, e_c, e_li, e_lr, e_lj, e_un, e_bin, e_if, e_b, b_not, b_and, b_or, b_of, e_call, a_recv, a_snoc, a_nil, prI, prJ, prR, e_gi, e_gr, e_ai, e_ar, s_as, s_aop, s_pf, s_pfz, s_fop, l_set, l_ok, e_div, e_rem, e_len, s_tab, g_103_0, rd_104_1, e1, p1, e]
theorem X6_washing_no0 (f : FN) {o n : Int32} (h : ¬ (0 ≤ o ∧ o ≤ 5 ∧ 1 ≤ n ∧ n ≤ 12)) : D_X6_washing [.ref 0, .int o, .int n] (memOf f) = some (.int (-1000001), memOf (row f 81 (upd (f 81) 0 (f 81 0 + 1)))) := by
  by_cases h1 : 0 ≤ o
  · by_cases h2 : o ≤ 5
    · by_cases h3 : 1 ≤ n
      · have h4 : ¬ (n ≤ 12) := fun q => h ⟨h1, h2, h3, q⟩
        simp [D_X6_washing, S_X6_washing, m_den, l0, Value.category, s_seq, s_if, s_st, s_ret, s_retz, s_retv, s_skip, s_sc, s_inc, s_call, e_c, e_li, e_lr, e_lj, e_un, e_bin, e_if, e_b, b_not, b_and, b_or, b_of, e_call, a_recv, a_snoc, a_nil, prI, prJ, prR, e_gi, e_gr, e_ai, e_ar, s_as, s_aop, s_pf, s_pfz, s_fop, l_set, l_ok, e_div, e_rem, e_len, s_tab, X6_isOwner, X6_isIn, rc_0, X6_fin_0, h1, h2, h3, h4]
      · simp [D_X6_washing, S_X6_washing, m_den, l0, Value.category, s_seq, s_if, s_st, s_ret, s_retz, s_retv, s_skip, s_sc, s_inc, s_call, e_c, e_li, e_lr, e_lj, e_un, e_bin, e_if, e_b, b_not, b_and, b_or, b_of, e_call, a_recv, a_snoc, a_nil, prI, prJ, prR, e_gi, e_gr, e_ai, e_ar, s_as, s_aop, s_pf, s_pfz, s_fop, l_set, l_ok, e_div, e_rem, e_len, s_tab, X6_isOwner, X6_isIn, rc_0, X6_fin_0, h1, h2, h3]
    · simp [D_X6_washing, S_X6_washing, m_den, l0, Value.category, s_seq, s_if, s_st, s_ret, s_retz, s_retv, s_skip, s_sc, s_inc, s_call, e_c, e_li, e_lr, e_lj, e_un, e_bin, e_if, e_b, b_not, b_and, b_or, b_of, e_call, a_recv, a_snoc, a_nil, prI, prJ, prR, e_gi, e_gr, e_ai, e_ar, s_as, s_aop, s_pf, s_pfz, s_fop, l_set, l_ok, e_div, e_rem, e_len, s_tab, X6_isOwner, X6_isIn, rc_0, X6_fin_0, h1, h2]
  · simp [D_X6_washing, S_X6_washing, m_den, l0, Value.category, s_seq, s_if, s_st, s_ret, s_retz, s_retv, s_skip, s_sc, s_inc, s_call, e_c, e_li, e_lr, e_lj, e_un, e_bin, e_if, e_b, b_not, b_and, b_or, b_of, e_call, a_recv, a_snoc, a_nil, prI, prJ, prR, e_gi, e_gr, e_ai, e_ar, s_as, s_aop, s_pf, s_pfz, s_fop, l_set, l_ok, e_div, e_rem, e_len, s_tab, X6_isOwner, X6_isIn, rc_0, X6_fin_0, h1]
theorem X7_washing_no0 (f : FN) {o n : Int32} (h : ¬ (0 ≤ o ∧ o ≤ 5 ∧ 1 ≤ n ∧ n ≤ 12)) : D_X7_washing [.ref 103, .int o, .int n] (memOf f) = some (.int (-1000001), memOf (row f 107 (upd (f 107) 0 (f 107 0 + 1)))) := by
  by_cases h1 : 0 ≤ o
  · by_cases h2 : o ≤ 5
    · by_cases h3 : 1 ≤ n
      · have h4 : ¬ (n ≤ 12) := fun q => h ⟨h1, h2, h3, q⟩
        simp [D_X7_washing, S_X7_washing, m_den, l0, Value.category, s_seq, s_if, s_st, s_ret, s_retz, s_retv, s_skip, s_sc, s_inc, s_call, e_c, e_li, e_lr, e_lj, e_un, e_bin, e_if, e_b, b_not, b_and, b_or, b_of, e_call, a_recv, a_snoc, a_nil, prI, prJ, prR, e_gi, e_gr, e_ai, e_ar, s_as, s_aop, s_pf, s_pfz, s_fop, l_set, l_ok, e_div, e_rem, e_len, s_tab, X7_isOwner, X7_in, j_le_12, j_ge_1, rc_103, X7_fin_0, h1, h2, h3, h4]
      · simp [D_X7_washing, S_X7_washing, m_den, l0, Value.category, s_seq, s_if, s_st, s_ret, s_retz, s_retv, s_skip, s_sc, s_inc, s_call, e_c, e_li, e_lr, e_lj, e_un, e_bin, e_if, e_b, b_not, b_and, b_or, b_of, e_call, a_recv, a_snoc, a_nil, prI, prJ, prR, e_gi, e_gr, e_ai, e_ar, s_as, s_aop, s_pf, s_pfz, s_fop, l_set, l_ok, e_div, e_rem, e_len, s_tab, X7_isOwner, X7_in, j_le_12, j_ge_1, rc_103, X7_fin_0, h1, h2, h3]
    · simp [D_X7_washing, S_X7_washing, m_den, l0, Value.category, s_seq, s_if, s_st, s_ret, s_retz, s_retv, s_skip, s_sc, s_inc, s_call, e_c, e_li, e_lr, e_lj, e_un, e_bin, e_if, e_b, b_not, b_and, b_or, b_of, e_call, a_recv, a_snoc, a_nil, prI, prJ, prR, e_gi, e_gr, e_ai, e_ar, s_as, s_aop, s_pf, s_pfz, s_fop, l_set, l_ok, e_div, e_rem, e_len, s_tab, X7_isOwner, X7_in, j_le_12, j_ge_1, rc_103, X7_fin_0, h1, h2]
  · simp [D_X7_washing, S_X7_washing, m_den, l0, Value.category, s_seq, s_if, s_st, s_ret, s_retz, s_retv, s_skip, s_sc, s_inc, s_call, e_c, e_li, e_lr, e_lj, e_un, e_bin, e_if, e_b, b_not, b_and, b_or, b_of, e_call, a_recv, a_snoc, a_nil, prI, prJ, prR, e_gi, e_gr, e_ai, e_ar, s_as, s_aop, s_pf, s_pfz, s_fop, l_set, l_ok, e_div, e_rem, e_len, s_tab, X7_isOwner, X7_in, j_le_12, j_ge_1, rc_103, X7_fin_0, h1]
theorem agr_washing {f : FN} (h : REL f) (y u : Int32) : AGR D_X6_washing D_X7_washing [.int y, .int u] f := by
  obtain ⟨⟨m, hT, hV⟩, -⟩ := id h
  obtain ⟨TRS, ro, wd, Q, bo, hh, w⟩ := TW.ex hT hV
  obtain ⟨⟨b1, b2, b3, b4⟩, hS, sp, ro', wd', bk', tk, bn⟩ := id w
  have em' := hS.1.1
  have m8 := hS.1.2
  by_cases hc : 0 ≤ y ∧ y ≤ 5 ∧ 1 ≤ u ∧ u ≤ 12
  · obtain ⟨o, ho, rfl⟩ := in_ex (n := 5) ⟨hc.1, hc.2.1⟩ (by omega)
    obtain ⟨a3, a4, a5, a6⟩ := hc
    obtain ⟨n, hn, rfl⟩ := in_ex (n := 12) ⟨Int32.le_trans (by decide) a5, a6⟩ (by omega)
    have hq := hor (h := hh) (n := n) b3 (by omega)
    by_cases hN : hh + n ≤ 9999
    · obtain ⟨F, eF⟩ : ∃ F : Nat → Int32, F = fun s => nI (fiW TRS m s) := ⟨_, rfl⟩
      obtain ⟨D, eD⟩ : ∃ D : Nat → Int32, D = fun s => nI (csI m (fun k => if hasB s k then gD (TRS k) wd ro hh (Q k) n o else gD (updN (TRS k) 6 0) wd ro hh (Q k) n o)) := ⟨_, rfl⟩
      obtain ⟨p1, p2⟩ := pow_fin ⟨m, by omega⟩
      simp only at p1 p2
      obtain ⟨g0, A1, A2, A3⟩ := X6_playDirt f w (o := o) (n := n) (by omega) hN
      have w0 := w.congr (g := g0) (fun j hj => A2 j (by omega)) (A2 104 (by omega))
      have em0 : g0 1 2 = nI m := w0.1.2.2.2
      have W6 := X6_washing_W g0 w0.2.2.1 m8 em0 A3 (nI o) (nI n) eF eD
      have K : ∀ g1 : FN, (∀ x, ¬ (81 ≤ x ∧ x ≤ 92) → g1 x = f x) → ∃ p0 g2, D_X7_puts [.ref 103] (memOf g1) = some (.null, memOf p0) ∧ W_X7_washing_3 [.ref 103, .int (nI o), .int (nI n), .int (-1), .int (-1), .int 0] (memOf p0) = some (.inl ([.ref 103, .int (nI o), .int (nI n), .int (wsh F D (2 ^ m)).1, .int (wsh F D (2 ^ m)).2, .int (nI (2 ^ m))], memOf g2)) ∧ (∀ x, x ≠ 103 → x ≠ 106 → x ≠ 108 → x ≠ 109 → g2 x = g1 x) ∧ ∀ y, y ≠ 9 → g2 103 y = g1 103 y := fun g1 hg => by
        obtain ⟨p0, U1, U2, U3⟩ := X7_puts g1
        have P4 : p0 104 = f 104 := by rw [U2 104 (by omega), hg 104 (by omega)]
        have wp := w.congr (g := p0) (fun j hj => by rw [U2 j (by omega), hg j (by omega)]) P4
        obtain ⟨g2, C1, C2, C3⟩ := X7_washing_W p0 wp (fun y hy => by rw [U3 y hy, hg 104 (by omega), P4]) (o := o) (n := n) (by omega) hN eF eD
        exact ⟨p0, g2, U1, C1, fun x c1 c2 c3 c4 => by rw [C2 x c1 c3 c4, U2 x c2], fun y hy => by rw [C3 y hy, U2 103 (by omega)]⟩
      rcases wsh_ex F D (2 ^ m) with e | ⟨t, ht, e⟩
      · obtain ⟨g1, hg1⟩ : ∃ g1, g1 = row g0 81 (upd (g0 81) 3 (g0 81 3 + 1)) := ⟨_, rfl⟩
        have fin := X6_fin_3 g0
        rw [← hg1] at fin
        obtain ⟨p0, g2, U1, C1, C2, C3⟩ := K g1 (fun x hx => by rw [hg1, row_ne _ _ (by omega)]; exact A2 x (by omega))
        rw [e] at W6 C1
        have q : ((-1 : Int32) < 0) = True := eq_true (by decide)
        have g5 : g1 104 0 = nI hh := by rw [hg1, row_ne _ _ (by omega), A2 104 (by omega)]; exact b2
        refine ⟨-1000004, g1, row g2 107 (upd (g2 107) 3 (g2 107 3 + 1)), ?_, ?_, ?_⟩
        · simp [D_X6_washing, S_X6_washing, m_den, l0, Value.category, s_seq, s_if, s_st, s_ret, s_retz, s_retv, s_skip, s_sc, s_inc, s_call, e_c, e_li, e_lr, e_lj, e_un, e_bin, e_if, e_b, b_not, b_and, b_or, b_of, e_call, a_recv, a_snoc, a_nil, prI, prJ, prR, e_gi, e_gr, e_ai, e_ar, s_as, s_aop, s_pf, s_pfz, s_fop, l_set, l_ok, e_div, e_rem, e_len, s_tab, X6_isOwner, X6_isIn, a3, a4, a5, a6, rc_0, X6_hasHours, b1, hq, hN, A1, g_0_0, g_1_2, em0, p1, W6, q, fin]
        · simp [D_X7_washing, S_X7_washing, m_den, l0, Value.category, s_seq, s_if, s_st, s_ret, s_retz, s_retv, s_skip, s_sc, s_inc, s_call, e_c, e_li, e_lr, e_lj, e_un, e_bin, e_if, e_b, b_not, b_and, b_or, b_of, e_call, a_recv, a_snoc, a_nil, prI, prJ, prR, e_gi, e_gr, e_ai, e_ar, s_as, s_aop, s_pf, s_pfz, s_fop, l_set, l_ok, e_div, e_rem, e_len, s_tab, X7_isOwner, X7_in, j_le_12, j_ge_1, g5, a3, a4, a5, a6, rc_103, X7_isTooFar, hq, hN, U1, C1, q, X7_fin_3]
        · refine (h.find 3).trial (fun x c1 c2 c3 c4 c5 c6 c7 => ?_) (fun y hy => ?_)
          · unfold fnd
            by_cases c7 : x = 107
            · subst c7; rw [row_self, row_self, C2 107 (by omega) (by omega) (by omega) (by omega), hg1, row_ne _ _ (by omega), A2 107 (by omega)]
            · rw [row_ne _ _ c7, row_ne _ _ c7, C2 x c2 c3 c4 c5, hg1]
              by_cases c8 : x = 81
              · subst c8; rw [row_self, row_self, A2 81 (by omega)]
              · rw [row_ne _ _ c8, row_ne _ _ c8, A2 x (by omega)]
          · unfold fnd
            rw [row_ne _ _ (by omega), row_ne _ _ (by omega), row_ne _ _ (by omega), C3 y (by omega), hg1, row_ne _ _ (by omega), A2 103 (by omega)]
      · obtain ⟨p0, g2, U1, C1, C2, C3⟩ := K g0 (fun x hx => A2 x (by omega))
        rw [e] at W6 C1
        have q : (nI t < 0) = False := eq_false (Int32.not_lt.mpr (nI_pos' (by omega)))
        have g5 : g0 104 0 = nI hh := by rw [A2 104 (by omega)]; exact b2
        refine ⟨nI t, g0, g2, ?_, ?_, ?_⟩
        · simp [D_X6_washing, S_X6_washing, m_den, l0, Value.category, s_seq, s_if, s_st, s_ret, s_retz, s_retv, s_skip, s_sc, s_inc, s_call, e_c, e_li, e_lr, e_lj, e_un, e_bin, e_if, e_b, b_not, b_and, b_or, b_of, e_call, a_recv, a_snoc, a_nil, prI, prJ, prR, e_gi, e_gr, e_ai, e_ar, s_as, s_aop, s_pf, s_pfz, s_fop, l_set, l_ok, e_div, e_rem, e_len, s_tab, X6_isOwner, X6_isIn, a3, a4, a5, a6, rc_0, X6_hasHours, b1, hq, hN, A1, g_0_0, g_1_2, em0, p1, W6, q]
        · simp [D_X7_washing, S_X7_washing, m_den, l0, Value.category, s_seq, s_if, s_st, s_ret, s_retz, s_retv, s_skip, s_sc, s_inc, s_call, e_c, e_li, e_lr, e_lj, e_un, e_bin, e_if, e_b, b_not, b_and, b_or, b_of, e_call, a_recv, a_snoc, a_nil, prI, prJ, prR, e_gi, e_gr, e_ai, e_ar, s_as, s_aop, s_pf, s_pfz, s_fop, l_set, l_ok, e_div, e_rem, e_len, s_tab, X7_isOwner, X7_in, j_le_12, j_ge_1, g5, a3, a4, a5, a6, rc_103, X7_isTooFar, hq, hN, U1, C1, q]
        · refine h.trial (fun x c1 c2 c3 c4 c5 c6 c7 => ?_) (fun y hy => ?_)
          · rw [C2 x c2 c3 c4 c5, A2 x (by omega)]
          · rw [C3 y (by omega), A2 103 (by omega)]
    · refine agr_find (j := 4) (v := -1000005) h ?_ (fun g hg => ?_)
      · simp [D_X6_washing, S_X6_washing, m_den, l0, Value.category, s_seq, s_if, s_st, s_ret, s_retz, s_retv, s_skip, s_sc, s_inc, s_call, e_c, e_li, e_lr, e_lj, e_un, e_bin, e_if, e_b, b_not, b_and, b_or, b_of, e_call, a_recv, a_snoc, a_nil, prI, prJ, prR, e_gi, e_gr, e_ai, e_ar, s_as, s_aop, s_pf, s_pfz, s_fop, l_set, l_ok, e_div, e_rem, e_len, s_tab, X6_isOwner, X6_isIn, a3, a4, a5, a6, rc_0, X6_hasHours, b1, hq, hN, X6_fin_4]
      · have b2' : g 104 0 = nI hh := by rw [hg.1]; exact b2
        simp [D_X7_washing, S_X7_washing, m_den, l0, Value.category, s_seq, s_if, s_st, s_ret, s_retz, s_retv, s_skip, s_sc, s_inc, s_call, e_c, e_li, e_lr, e_lj, e_un, e_bin, e_if, e_b, b_not, b_and, b_or, b_of, e_call, a_recv, a_snoc, a_nil, prI, prJ, prR, e_gi, e_gr, e_ai, e_ar, s_as, s_aop, s_pf, s_pfz, s_fop, l_set, l_ok, e_div, e_rem, e_len, s_tab, X7_isOwner, X7_in, j_le_12, j_ge_1, a3, a4, a5, a6, rc_103, X7_isTooFar, b2', hq, hN, X7_fin_4]
  · exact agr_find h (X6_washing_no0 f hc) (fun g _ => X7_washing_no0 g hc)
