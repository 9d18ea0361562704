/-! trials; ahead -/
theorem TW.congr {f g : FN} {m : Nat} {TRS : Nat → Nat → Nat} {ro : Nat → Option Nat} {wd : Nat → Nat} {Q : Nat → SMK} {bo : Nat → Int} {h : Nat} (w : TW f m TRS ro wd Q bo h) (e : ∀ j, j < 39 → g j = f j) (e4 : g 104 = f 104) : TW g m TRS ro wd Q bo h := by
  obtain ⟨⟨b1, b2, b3, b4⟩, hS, sp, ro', wd', bk', tk, bn⟩ := w
  have m8 := hS.1.2
  refine ⟨⟨by rw [e 1 (by omega)]; exact b1, by rw [e4]; exact b2, b3, by rw [e 1 (by omega)]; exact b4⟩, by rw [e4]; exact hS, fun k hk => ⟨by rw [e4]; exact (sp k hk).1, (sp k hk).2.1.congr (fun j h1 h2 _ => e j (by unfold chId at h2; omega)), (sp k hk).2.2.congr (e _ (by unfold chId; omega))⟩, ro'.congr (e 2 (by omega)), wd'.congr (e 3 (by omega)), fun o ho => by rw [e 4 (by omega), e4]; exact bk' o ho, tk, bn⟩
theorem isCh_82 : isCh 82 := ⟨sh_82, sh_83, sh_84, sh_85⟩
/-- the trial takes a chimney and plays -/
theorem trial_take (f : FN) {m k : Nat} {TRS : Nat → Nat → Nat} {Q : Nat → SMK} (sp : SP f m TRS Q) (hk : k < m) (hm : m ≤ 8) : ∃ g, D_X0_take [.ref 82, .ref (chId 1 k)] (memOf f) = some (.null, memOf g) ∧ HC g 82 (Q k) ∧ HTr g 82 (TRS k) ∧ ∀ x, ¬ (82 ≤ x ∧ x ≤ 85) → g x = f x := by
  have hC := isCh_town (b := 1) (c := k) (Or.inl rfl) (by omega)
  obtain ⟨g, T1, T2, T3, T4, T5, T6, T7, T8⟩ := X0_take f isCh_82 hC (by unfold chId; omega)
  obtain ⟨-, ⟨c1, c2, c3, c4, c5⟩, ct⟩ := sp k hk
  exact ⟨g, T1, ⟨fun c hc => by rw [T3 c hc]; exact c1 c hc, fun c hc => by rw [T4 c hc]; exact c2 c hc, by rw [T5]; exact c3, by rw [T6]; exact c4, by rw [T7]; exact c5⟩, fun j hj => by rw [T2 j hj]; exact ct j hj, fun x hx => T8 x (by omega)⟩
theorem pbk_of {f' g : FN} {m n h : Nat} {TRS : Nat → Nat → Nat} {ro : Nat → Option Nat} {wd : Nat → Nat} {Q : Nat → SMK} {s0 : Nat → Int32} (P : PL f' m TRS ro wd h Q n g) (hm : m ≤ 8) (h6 : ∀ y, y < 735 → f' 106 y = s0 y) (h4 : ∀ y, 735 ≤ y → f' 104 y = s0 y) : ∃ g2, D_X7_putsBack [.ref 103] (memOf g) = some (.null, memOf g2) ∧ g2 104 = s0 ∧ ∀ x, x ≠ 104 → g2 x = g x := by
  obtain ⟨g2, B1, B2, B3, B4⟩ := X7_putsBack g
  refine ⟨g2, B1, ?_, B2⟩
  funext y
  by_cases c : y < 735
  · rw [B3 y c, P.1 106 (by omega) (by omega) (by omega) (by omega)]; exact h6 y c
  · rw [B4 y (by omega), P.2.2.1 y (by omega) (by omega) (fun k hk => by unfold inCh; omega)]; exact h4 y (by omega)
theorem X7_allOf (f : FN) {w : Nat} (hw : w + 8 ≤ 735) : D_X7_allOf [.ref 103, .int (nI w)] (memOf f) = some (.int (sumI 8 (fun k => f 104 (w + k))), memOf f) := by
  have W : W_X7_allOf_1 [.ref 103, .int (nI w), .int 0, .int 0] (memOf f) = some (.inl ([.ref 103, .int (nI w), .int (sumI 8 (fun k => f 104 (w + k))), .int (nI 8)], memOf f)) := by
    have key := while_count (b := WB_X7_allOf_1) (s := WS_X7_allOf_1) (fun k => ([.ref 103, .int (nI w), .int (sumI k (fun k => f 104 (w + k))), .int (nI k)], memOf f)) 8 (by unfold FU; omega) (fun k hk => ?_) (fun k hk => ?_) ?_
    · exact key
    · have e : nI k < (8 : Int32) := lt_lit (n := 8) hk (by omega)
      simp [WB_X7_allOf_1, m_den, l0, Value.category, s_seq, s_if, s_st, s_ret, s_retz, s_retv, s_skip, s_sc, s_inc, s_call, e_c, e_li, e_lr, e_lj, e_un, e_bin, e_if, e_b, b_not, b_and, b_or, b_of, e_call, a_recv, a_snoc, a_nil, prI, prJ, prR, e_gi, e_gr, e_ai, e_ar, s_as, s_aop, s_pf, s_pfz, s_fop, l_set, l_ok, e_div, e_rem, e_len, s_tab, e]
    · simp [WS_X7_allOf_1, m_den, l0, Value.category, s_seq, s_if, s_st, s_ret, s_retz, s_retv, s_skip, s_sc, s_inc, s_call, e_c, e_li, e_lr, e_lj, e_un, e_bin, e_if, e_b, b_not, b_and, b_or, b_of, e_call, a_recv, a_snoc, a_nil, prI, prJ, prR, e_gi, e_gr, e_ai, e_ar, s_as, s_aop, s_pf, s_pfz, s_fop, l_set, l_ok, e_div, e_rem, e_len, s_tab, g_103_0, nI_a, rd_104 f (show w + k < 735 by omega), nI_next, sumI]
    · have e : ¬ nI 8 < (8 : Int32) := nlt_lit (n := 8) (by omega)
      simp [WB_X7_allOf_1, m_den, l0, Value.category, s_seq, s_if, s_st, s_ret, s_retz, s_retv, s_skip, s_sc, s_inc, s_call, e_c, e_li, e_lr, e_lj, e_un, e_bin, e_if, e_b, b_not, b_and, b_or, b_of, e_call, a_recv, a_snoc, a_nil, prI, prJ, prR, e_gi, e_gr, e_ai, e_ar, s_as, s_aop, s_pf, s_pfz, s_fop, l_set, l_ok, e_div, e_rem, e_len, s_tab, e]
  simp [D_X7_allOf, S_X7_allOf, m_den, l0, Value.category, s_seq, s_if, s_st, s_ret, s_retz, s_retv, s_skip, s_sc, s_inc, s_call, e_c, e_li, e_lr, e_lj, e_un, e_bin, e_if, e_b, b_not, b_and, b_or, b_of, e_call, a_recv, a_snoc, a_nil, prI, prJ, prR, e_gi, e_gr, e_ai, e_ar, s_as, s_aop, s_pf, s_pfz, s_fop, l_set, l_ok, e_div, e_rem, e_len, s_tab, W]
theorem sumI_8 {m : Nat} {g : Nat → Int32} {G : Nat → Nat} (hm : m ≤ 8) (h1 : ∀ k, k < m → g k = nI (G k)) (h2 : ∀ k, m ≤ k → k < 8 → g k = 0) : sumI 8 g = nI (csI m G) := by
  have key : ∀ d, m + d ≤ 8 → sumI (m + d) g = nI (csI m G) := by
    intro d
    induction d with
    | zero => intro _; exact sumI_nI h1
    | succ d ih =>
      intro hd
      show sumI (m + d) g + g (m + d) = _
      rw [ih (by omega), h2 (m + d) (by omega) (by omega), Int32.add_zero]
  have := key (8 - m) (by omega)
  rw [show m + (8 - m) = 8 by omega] at this
  exact this
theorem X6_ahead_W (f : FN) {m n : Nat} {what : Int32} {TRS : Nat → Nat → Nat} {ro : Nat → Option Nat} {wd : Nat → Nat} {Q : Nat → SMK} {bo : Nat → Int} {h : Nat} {f0 : FN} (w : TW f0 m TRS ro wd Q bo h) (e0 : ∀ j, ¬ (86 ≤ j ∧ j ≤ 89) → f j = f0 j) (hT : HT f tl0) (hN : h + n ≤ 9999) : ∃ g, W_X6_ahead_1 [.ref 0, .int (nI n), .int what, .int 0, .int 0, .int 0] (memOf f) = some (.inl ([.ref 0, .int (nI n), .int what, .int (nI (csI m (fun k => (rn TRS wd h Q n k).2.2.2.1))), .int (nI (csI m (fun k => (rn TRS wd h Q n k).2.2.1))), .int (nI m)], memOf g)) ∧ (∀ x, ¬ (82 ≤ x ∧ x ≤ 89) → g x = f0 x) ∧ HT g (tlC TRS wd ro h Q n m) := by
  have m8 := w.2.1.1.2
  have key := while_rel (b := WB_X6_ahead_1) (s := WS_X6_ahead_1) (fun c => [.ref 0, .int (nI n), .int what, .int (nI (csI c (fun k => (rn TRS wd h Q n k).2.2.2.1))), .int (nI (csI c (fun k => (rn TRS wd h Q n k).2.2.1))), .int (nI c)]) (fun c g => (∀ x, ¬ (82 ≤ x ∧ x ≤ 89) → g x = f0 x) ∧ HT g (tlC TRS wd ro h Q n c)) m (by unfold FU; omega) (fun c g hc hI => ?_) (fun c g hc hI => ?_) (fun g hI => ?_) (f := f) ⟨fun x hx => e0 x (by omega), hT⟩
  · exact key
  · have e1 : g 1 2 = nI m := by rw [hI.1 1 (by omega)]; exact w.1.2.2.2
    have e : nI c < nI m := (nI_lt_iff (by omega) (by omega)).mpr hc
    simp [WB_X6_ahead_1, m_den, l0, Value.category, s_seq, s_if, s_st, s_ret, s_retz, s_retv, s_skip, s_sc, s_inc, s_call, e_c, e_li, e_lr, e_lj, e_un, e_bin, e_if, e_b, b_not, b_and, b_or, b_of, e_call, a_recv, a_snoc, a_nil, prI, prJ, prR, e_gi, e_gr, e_ai, e_ar, s_as, s_aop, s_pf, s_pfz, s_fop, l_set, l_ok, e_div, e_rem, e_len, s_tab, g_0_0, g_1_2, e1, e]
  · obtain ⟨I1, I2⟩ := hI
    have wg := w.congr (g := g) (fun j hj => I1 j (by omega)) (I1 104 (by omega))
    have hAl := wg.A_le
    obtain ⟨⟨b1, b2, b3, b4⟩, ⟨⟨s1, s2⟩, s3, s4, s5⟩, sp, ro', wd', bk', tk, bn⟩ := wg
    obtain ⟨g1, T1, T2, T3, T4⟩ := trial_take g sp hc m8
    obtain ⟨g2, P1, P2, P3, P4⟩ := X5_playHours g1 (n0 := 0) (n := n) (q := Q c) isCh_82 (by omega) (by rw [T4 1 (by omega)]; exact b1) T2 T3 (s3 c hc).2 (ro'.congr (T4 2 (by omega))) (wd'.congr (T4 3 (by omega))) (I2.congr (fun j h1 h2 => T4 j (by omega))) (hAl c hc) (by omega)
    rw [tlC_succ] at P3
    rw [Nat.zero_add] at P2
    refine ⟨g2, ?_, fun x hx => by rw [P4 x (by omega) (by omega) (by omega) (by omega), T4 x (by omega)]; exact I1 x hx, P3⟩
    have z : nI 0 = 0 := rfl
    rw [z] at P1
    have c3 := P2.2.2.1
    have c4 := P2.2.2.2.1
    simp [WS_X6_ahead_1, m_den, l0, Value.category, s_seq, s_if, s_st, s_ret, s_retz, s_retv, s_skip, s_sc, s_inc, s_call, e_c, e_li, e_lr, e_lj, e_un, e_bin, e_if, e_b, b_not, b_and, b_or, b_of, e_call, a_recv, a_snoc, a_nil, prI, prJ, prR, e_gi, e_gr, e_ai, e_ar, s_as, s_aop, s_pf, s_pfz, s_fop, l_set, l_ok, e_div, e_rem, e_len, s_tab, g_0_0, g_0_6, g_0_7, g_1_7, rr_6 g (show c < 8 by omega), rc_82, rc_1, T1, P1, g_82_3, g_82_4, c3, c4, nI_a, nI_next, csI_succ]
    exact ⟨rfl, rfl⟩
  · have e1 : g 1 2 = nI m := by rw [hI.1 1 (by omega)]; exact w.1.2.2.2
    have e : ¬ nI m < nI m := Int32.lt_irrefl
    simp [WB_X6_ahead_1, m_den, l0, Value.category, s_seq, s_if, s_st, s_ret, s_retz, s_retv, s_skip, s_sc, s_inc, s_call, e_c, e_li, e_lr, e_lj, e_un, e_bin, e_if, e_b, b_not, b_and, b_or, b_of, e_call, a_recv, a_snoc, a_nil, prI, prJ, prR, e_gi, e_gr, e_ai, e_ar, s_as, s_aop, s_pf, s_pfz, s_fop, l_set, l_ok, e_div, e_rem, e_len, s_tab, g_0_0, g_1_2, e1, e]
theorem X6_ahead_no0 (f : FN) {n w : Int32} (h : ¬ (0 ≤ n ∧ n ≤ 72 ∧ 0 ≤ w ∧ w ≤ 14)) : D_X6_ahead [.ref 0, .int n, .int w] (memOf f) = some (.int (-1000001), memOf (row f 81 (upd (f 81) 0 (f 81 0 + 1)))) := by
  by_cases h1 : 0 ≤ n
  · by_cases h2 : n ≤ 72
    · by_cases h3 : 0 ≤ w
      · have h4 : ¬ (w ≤ 14) := fun q => h ⟨h1, h2, h3, q⟩
        simp [D_X6_ahead, S_X6_ahead, m_den, l0, Value.category, s_seq, s_if, s_st, s_ret, s_retz, s_retv, s_skip, s_sc, s_inc, s_call, e_c, e_li, e_lr, e_lj, e_un, e_bin, e_if, e_b, b_not, b_and, b_or, b_of, e_call, a_recv, a_snoc, a_nil, prI, prJ, prR, e_gi, e_gr, e_ai, e_ar, s_as, s_aop, s_pf, s_pfz, s_fop, l_set, l_ok, e_div, e_rem, e_len, s_tab, X6_isIn, rc_0, X6_fin_0, h1, h2, h3, h4]
      · simp [D_X6_ahead, S_X6_ahead, m_den, l0, Value.category, s_seq, s_if, s_st, s_ret, s_retz, s_retv, s_skip, s_sc, s_inc, s_call, e_c, e_li, e_lr, e_lj, e_un, e_bin, e_if, e_b, b_not, b_and, b_or, b_of, e_call, a_recv, a_snoc, a_nil, prI, prJ, prR, e_gi, e_gr, e_ai, e_ar, s_as, s_aop, s_pf, s_pfz, s_fop, l_set, l_ok, e_div, e_rem, e_len, s_tab, X6_isIn, rc_0, X6_fin_0, h1, h2, h3]
    · simp [D_X6_ahead, S_X6_ahead, m_den, l0, Value.category, s_seq, s_if, s_st, s_ret, s_retz, s_retv, s_skip, s_sc, s_inc, s_call, e_c, e_li, e_lr, e_lj, e_un, e_bin, e_if, e_b, b_not, b_and, b_or, b_of, e_call, a_recv, a_snoc, a_nil, prI, prJ, prR, e_gi, e_gr, e_ai, e_ar, s_as, s_aop, s_pf, s_pfz, s_fop, l_set, l_ok, e_div, e_rem, e_len, s_tab, X6_isIn, rc_0, X6_fin_0, h1, h2]
  · simp [D_X6_ahead, S_X6_ahead, m_den, l0, Value.category, s_seq, s_if, s_st, s_ret, s_retz, s_retv, s_skip, s_sc, s_inc, s_call, e_c, e_li, e_lr, e_lj, e_un, e_bin, e_if, e_b, b_not, b_and, b_or, b_of, e_call, a_recv, a_snoc, a_nil, prI, prJ, prR, e_gi, e_gr, e_ai, e_ar, s_as, s_aop, s_pf, s_pfz, s_fop, l_set, l_ok, e_div, e_rem, e_len, s_tab, X6_isIn, rc_0, X6_fin_0, h1]
theorem X7_ahead_no0 (f : FN) {n w : Int32} (h : ¬ (0 ≤ n ∧ n ≤ 72 ∧ 0 ≤ w ∧ w ≤ 14)) : D_X7_ahead [.ref 103, .int n, .int w] (memOf f) = some (.int (-1000001), memOf (row f 107 (upd (f 107) 0 (f 107 0 + 1)))) := by
  by_cases h1 : 0 ≤ n
  · by_cases h2 : n ≤ 72
    · by_cases h3 : 0 ≤ w
      · have h4 : ¬ (w ≤ 14) := fun q => h ⟨h1, h2, h3, q⟩
        simp [D_X7_ahead, S_X7_ahead, m_den, l0, Value.category, s_seq, s_if, s_st, s_ret, s_retz, s_retv, s_skip, s_sc, s_inc, s_call, e_c, e_li, e_lr, e_lj, e_un, e_bin, e_if, e_b, b_not, b_and, b_or, b_of, e_call, a_recv, a_snoc, a_nil, prI, prJ, prR, e_gi, e_gr, e_ai, e_ar, s_as, s_aop, s_pf, s_pfz, s_fop, l_set, l_ok, e_div, e_rem, e_len, s_tab, X7_in, j_le_72, j_le_14, j_ge_0, rc_103, X7_fin_0, h1, h2, h3, h4]
      · simp [D_X7_ahead, S_X7_ahead, m_den, l0, Value.category, s_seq, s_if, s_st, s_ret, s_retz, s_retv, s_skip, s_sc, s_inc, s_call, e_c, e_li, e_lr, e_lj, e_un, e_bin, e_if, e_b, b_not, b_and, b_or, b_of, e_call, a_recv, a_snoc, a_nil, prI, prJ, prR, e_gi, e_gr, e_ai, e_ar, s_as, s_aop, s_pf, s_pfz, s_fop, l_set, l_ok, e_div, e_rem, e_len, s_tab, X7_in, j_le_72, j_le_14, j_ge_0, rc_103, X7_fin_0, h1, h2, h3]
    · simp [D_X7_ahead, S_X7_ahead, m_den, l0, Value.category, s_seq, s_if, s_st, s_ret, s_retz, s_retv, s_skip, s_sc, s_inc, s_call, e_c, e_li, e_lr, e_lj, e_un, e_bin, e_if, e_b, b_not, b_and, b_or, b_of, e_call, a_recv, a_snoc, a_nil, prI, prJ, prR, e_gi, e_gr, e_ai, e_ar, s_as, s_aop, s_pf, s_pfz, s_fop, l_set, l_ok, e_div, e_rem, e_len, s_tab, X7_in, j_le_72, j_le_14, j_ge_0, rc_103, X7_fin_0, h1, h2]
  · simp [D_X7_ahead, S_X7_ahead, m_den, l0, Value.category, s_seq, s_if, s_st, s_ret, s_retz, s_retv, s_skip, s_sc, s_inc, s_call, e_c, e_li, e_lr, e_lj, e_un, e_bin, e_if, e_b, b_not, b_and, b_or, b_of, e_call, a_recv, a_snoc, a_nil, prI, prJ, prR, e_gi, e_gr, e_ai, e_ar, s_as, s_aop, s_pf, s_pfz, s_fop, l_set, l_ok, e_div, e_rem, e_len, s_tab, X7_in, j_le_72, j_le_14, j_ge_0, rc_103, X7_fin_0, h1]
