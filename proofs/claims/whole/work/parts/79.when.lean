/-! when -/
theorem gD_le {f : FN} {m : Nat} {TRS : Nat → Nat → Nat} {ro : Nat → Option Nat} {wd : Nat → Nat} {Q : Nat → SMK} {bo : Nat → Int} {h : Nat} (w : TW f m TRS ro wd Q bo h) {k n : Nat} (hk : k < m) (hN : h + n ≤ 9999) {tr : Nat → Nat} (hb : TB tr) (o : Nat) : gD tr wd ro h (Q k) n o ≤ 2029797 := by
  have a := w.sum_le hk hb n
  have b : gD tr wd ro h (Q k) n o ≤ csI n (fun j => dS tr wd (bM tr) h j (Q k)) := csI_mono (fun j _ => dD_le _ _ _ _ _ _ _ _)
  omega
theorem restD_le {f : FN} {m : Nat} {TRS : Nat → Nat → Nat} {ro : Nat → Option Nat} {wd : Nat → Nat} {Q : Nat → SMK} {bo : Nat → Int} {h : Nat} (w : TW f m TRS ro wd Q bo h) {k n : Nat} (hN : h + n ≤ 9999) (o : Nat) : restD TRS wd ro h Q m n k o ≤ 16238376 := by
  have m8 := w.2.1.1.2
  have a : restD TRS wd ro h Q m n k o ≤ m * 2029797 := by
    refine csI_le (fun i hi => ?_)
    by_cases e : i = k
    · rw [if_pos e]; omega
    · rw [if_neg e]
      exact gD_le w hi hN (w.2.1.2.1 i hi).2 o
  have e : m * 2029797 ≤ 8 * 2029797 := Nat.mul_le_mul_right _ m8
  omega
theorem am_yes {X : Nat → Int32} {B : Nat → Nat → Bool} {i : Nat} (eB : B = fun v b => decide (X v < X b)) (c : X (i + 1) < X (am B i)) : am B (i + 1) = i + 1 := by
  show (if B (i + 1) (am B i) then i + 1 else am B i) = i + 1
  rw [eB] at c ⊢
  simp only
  rw [if_pos (decide_eq_true c)]
theorem am_no {X : Nat → Int32} {B : Nat → Nat → Bool} {i : Nat} (eB : B = fun v b => decide (X v < X b)) (c : ¬ X (i + 1) < X (am B i)) : am B (i + 1) = am B i := by
  show (if B (i + 1) (am B i) then i + 1 else am B i) = am B i
  rw [eB] at c ⊢
  simp only
  rw [if_neg (by rw [decide_eq_true_iff]; exact c)]
theorem X6_when_W (f : FN) {m : Nat} {TRS : Nat → Nat → Nat} {ro : Nat → Option Nat} {wd : Nat → Nat} {Q : Nat → SMK} {bo : Nat → Int} {h : Nat} (w : TW f m TRS ro wd Q bo h) {k o n : Nat} (hk : k < m) (ho : o < 6) (hn : n ≤ 24) (hN : h + n ≤ 9999) {X : Nat → Int32} {B : Nat → Nat → Bool} (eX : X = fun v => nI (gD (updN (TRS k) 5 v) wd ro h (Q k) n o)) (eB : B = fun v b => decide (X v < X b)) : ∃ y g, W_X6_when_1 [.ref 0, .int (nI k), .int (nI o), .int (nI n), .int 0, .int 0, .int 0] (memOf f) = some (.inl ([.ref 0, .int (nI k), .int (nI o), .int (nI n), .int (nI (am B 23)), .int y, .int (nI 24)], memOf g)) ∧ ∀ x, ¬ (82 ≤ x ∧ x ≤ 89) → g x = f x := by
  have key := while_rel (b := WB_X6_when_1) (s := WS_X6_when_1) (fun i => [.ref 0, .int (nI k), .int (nI o), .int (nI n), .int (bI 0 B i), .int (mI X B i), .int (nI i)]) (fun i g => ∀ x, ¬ (82 ≤ x ∧ x ≤ 89) → g x = f x) 24 (by unfold FU; omega) (fun i g hi hI => ?_) (fun i g hi hI => ?_) (fun g hI => ?_) (f := f) (fun _ _ => rfl)
  · obtain ⟨g, W, I⟩ := key
    exact ⟨_, g, W, I⟩
  · have e : nI i < (24 : Int32) := lt_lit (n := 24) hi (by omega)
    simp [WB_X6_when_1, m_den, l0, Value.category, s_seq, s_if, s_st, s_ret, s_retz, s_retv, s_skip, s_sc, s_inc, s_call, e_c, e_li, e_lr, e_lj, e_un, e_bin, e_if, e_b, b_not, b_and, b_or, b_of, e_call, a_recv, a_snoc, a_nil, prI, prJ, prR, e_gi, e_gr, e_ai, e_ar, s_as, s_aop, s_pf, s_pfz, s_fop, l_set, l_ok, e_div, e_rem, e_len, s_tab, e]
  · have wg := w.congr (g := g) (fun j hj => hI j (by omega)) (hI 104 (by omega))
    obtain ⟨g2, P1, P2, P3, P4⟩ := X6_playWith g wg hk (j := 5) (by omega) (v := i) (by simp only [lim]; omega) hN
    rw [tlR_0] at P4
    have r := rd_89 g2 ho
    rw [P4.2.2.2 _ ho] at r
    have r' : gm_rd (memOf g2) 89 (nI o) = some (X i) := by
      rw [r, eX]
      simp only [tl0, Nat.zero_add]
      rfl
    have z : nI 5 = 5 := rfl
    rw [z] at P1
    refine ⟨g2, ?_, fun x hx => by rw [P2 x hx]; exact hI x hx⟩
    cases i with
    | zero =>
      have q : (nI 0 = 0) = True := eq_true rfl
      simp [WS_X6_when_1, m_den, l0, Value.category, s_seq, s_if, s_st, s_ret, s_retz, s_retv, s_skip, s_sc, s_inc, s_call, e_c, e_li, e_lr, e_lj, e_un, e_bin, e_if, e_b, b_not, b_and, b_or, b_of, e_call, a_recv, a_snoc, a_nil, prI, prJ, prR, e_gi, e_gr, e_ai, e_ar, s_as, s_aop, s_pf, s_pfz, s_fop, l_set, l_ok, e_div, e_rem, e_len, s_tab, rc_0, P1, q, g_0_7, g_86_3, r', bI, mI, am, nI_next]
    | succ i =>
      have q : (nI (i + 1) = 0) = False := eq_false (fun e => absurd ((nI_inj (a := i + 1) (b := 0) (by omega) (by omega)).mp e) (by omega))
      by_cases c : X (i + 1) < X (am B i)
      · simp [WS_X6_when_1, m_den, l0, Value.category, s_seq, s_if, s_st, s_ret, s_retz, s_retv, s_skip, s_sc, s_inc, s_call, e_c, e_li, e_lr, e_lj, e_un, e_bin, e_if, e_b, b_not, b_and, b_or, b_of, e_call, a_recv, a_snoc, a_nil, prI, prJ, prR, e_gi, e_gr, e_ai, e_ar, s_as, s_aop, s_pf, s_pfz, s_fop, l_set, l_ok, e_div, e_rem, e_len, s_tab, rc_0, P1, q, g_0_7, g_86_3, r', bI, mI, c, am_yes eB c, nI_next]
      · simp [WS_X6_when_1, m_den, l0, Value.category, s_seq, s_if, s_st, s_ret, s_retz, s_retv, s_skip, s_sc, s_inc, s_call, e_c, e_li, e_lr, e_lj, e_un, e_bin, e_if, e_b, b_not, b_and, b_or, b_of, e_call, a_recv, a_snoc, a_nil, prI, prJ, prR, e_gi, e_gr, e_ai, e_ar, s_as, s_aop, s_pf, s_pfz, s_fop, l_set, l_ok, e_div, e_rem, e_len, s_tab, rc_0, P1, q, g_0_7, g_86_3, r', bI, mI, c, am_no eB c, nI_next]
  · have e : ¬ nI 24 < (24 : Int32) := nlt_lit (n := 24) (by omega)
    simp [WB_X6_when_1, m_den, l0, Value.category, s_seq, s_if, s_st, s_ret, s_retz, s_retv, s_skip, s_sc, s_inc, s_call, e_c, e_li, e_lr, e_lj, e_un, e_bin, e_if, e_b, b_not, b_and, b_or, b_of, e_call, a_recv, a_snoc, a_nil, prI, prJ, prR, e_gi, e_gr, e_ai, e_ar, s_as, s_aop, s_pf, s_pfz, s_fop, l_set, l_ok, e_div, e_rem, e_len, s_tab, e]
theorem X7_when_W (f : FN) {m : Nat} {TRS : Nat → Nat → Nat} {ro : Nat → Option Nat} {wd : Nat → Nat} {Q : Nat → SMK} {bo : Nat → Int} {h : Nat} (w : TW f m TRS ro wd Q bo h) (h6 : ∀ y, y < 735 → f 106 y = f 104 y) {k o n : Nat} (hk : k < m) (ho : o < 6) (hn : n ≤ 24) (hN : h + n ≤ 9999) {X : Nat → Int32} {B : Nat → Nat → Bool} (eX : X = fun v => nI (restD TRS wd ro h Q m n k o + gD (updN (TRS k) 5 v) wd ro h (Q k) n o)) (eB : B = fun v b => decide (X v < X b)) : ∃ y g, W_X7_when_1 [.ref 103, .int (nI k), .int (nI o), .int (nI n), .int (-1), .int 0, .int 0] (memOf f) = some (.inl ([.ref 103, .int (nI k), .int (nI o), .int (nI n), .int (nI (am B 23)), .int y, .int (nI 24)], memOf g)) ∧ (∀ x, x ≠ 103 → x ≠ 108 → x ≠ 109 → g x = f x) ∧ ∀ y, y ≠ 9 → g 103 y = f 103 y := by
  have hAl := w.A_le
  have m8 := w.2.1.1.2
  obtain ⟨⟨b1, b2, b3, b4⟩, hS, sp, ro', wd', bk', tk, bn⟩ := id w
  have key := while_rel (b := WB_X7_when_1) (s := WS_X7_when_1) (fun i => [.ref 103, .int (nI k), .int (nI o), .int (nI n), .int (bI (-1) B i), .int (mI X B i), .int (nI i)]) (fun i g => (∀ x, x ≠ 103 → x ≠ 108 → x ≠ 109 → g x = f x) ∧ ∀ y, y ≠ 9 → g 103 y = f 103 y) 24 (by unfold FU; omega) (fun i g hi hI => ?_) (fun i g hi hI => ?_) (fun g hI => ?_) (f := f) ⟨fun _ _ _ _ => rfl, fun _ _ => rfl⟩
  · obtain ⟨g, W, I⟩ := key
    exact ⟨_, g, W, I⟩
  · have e : nI i < (24 : Int32) := lt_lit (n := 24) hi (by omega)
    simp [WB_X7_when_1, m_den, l0, Value.category, s_seq, s_if, s_st, s_ret, s_retz, s_retv, s_skip, s_sc, s_inc, s_call, e_c, e_li, e_lr, e_lj, e_un, e_bin, e_if, e_b, b_not, b_and, b_or, b_of, e_call, a_recv, a_snoc, a_nil, prI, prJ, prR, e_gi, e_gr, e_ai, e_ar, s_as, s_aop, s_pf, s_pfz, s_fop, l_set, l_ok, e_div, e_rem, e_len, s_tab, e]
  · obtain ⟨I1, I2⟩ := hI
    have e4 := I1 104 (by omega) (by omega) (by omega)
    obtain ⟨g1, h1⟩ : ∃ g1, g1 = row g 104 (upd (g 104) (63 + 7 * k + 5) (nI i)) := ⟨_, rfl⟩
    have wr := wr_104 g (show 63 + 7 * k + 5 < 735 by omega) (nI i)
    rw [← h1] at wr
    have g14 : g1 104 = upd (f 104) (63 + 7 * k + 5) (nI i) := by rw [h1, row_self, e4]
    have hS1 : HSt (g1 104) m (updT TRS k (updN (TRS k) 5 i)) ro wd := by rw [g14]; exact hS.trait hk (by omega) (by simp only [lim]; omega)
    obtain ⟨g2, P1, P2, P3, P4⟩ := X7_dirtIn g1 (n := n) (o := o) (Q := Q) (s0 := f 104) hS1 (by rw [g14, upd_ne _ _ (by omega)]; exact b2) (fun x hx => by
      rw [g14]; exact (sp x hx).1.sig (fun y hy => upd_ne _ _ (by unfold inCh at hy; omega))) hAl hN (fun y hy => by rw [h1, row_ne _ _ (by omega), I1 106 (by omega) (by omega) (by omega)]; exact h6 y hy) (fun y hy => by rw [g14, upd_ne _ _ (by omega)]) ho
    rw [dirt_split hk] at P1
    have P1' : D_X7_dirtIn [.ref 103, .int (nI o), .int (nI n)] (memOf g1) = some (.int (X i), memOf g2) := by rw [P1, eX]
    refine ⟨g2, ?_, fun x c1 c2 c3 => ?_, fun y hy => by rw [P4 y hy, h1, row_ne _ _ (by omega)]; exact I2 y hy⟩
    · cases i with
      | zero =>
        have q : ((-1 : Int32) < 0) = True := eq_true (by decide)
        simp [WS_X7_when_1, m_den, l0, Value.category, s_seq, s_if, s_st, s_ret, s_retz, s_retv, s_skip, s_sc, s_inc, s_call, e_c, e_li, e_lr, e_lj, e_un, e_bin, e_if, e_b, b_not, b_and, b_or, b_of, e_call, a_recv, a_snoc, a_nil, prI, prJ, prR, e_gi, e_gr, e_ai, e_ar, s_as, s_aop, s_pf, s_pfz, s_fop, l_set, l_ok, e_div, e_rem, e_len, s_tab, g_103_0, X7_at5, wr, rc_103, P1', bI, mI, am, q, nI_next]
      | succ i =>
        have q : (nI (am B i) < 0) = False := eq_false (Int32.not_lt.mpr (nI_pos' (by have := am_le B i; omega)))
        by_cases c : X (i + 1) < X (am B i)
        · simp [WS_X7_when_1, m_den, l0, Value.category, s_seq, s_if, s_st, s_ret, s_retz, s_retv, s_skip, s_sc, s_inc, s_call, e_c, e_li, e_lr, e_lj, e_un, e_bin, e_if, e_b, b_not, b_and, b_or, b_of, e_call, a_recv, a_snoc, a_nil, prI, prJ, prR, e_gi, e_gr, e_ai, e_ar, s_as, s_aop, s_pf, s_pfz, s_fop, l_set, l_ok, e_div, e_rem, e_len, s_tab, g_103_0, X7_at5, wr, rc_103, P1', bI, mI, q, c, am_yes eB c, nI_next]
        · simp [WS_X7_when_1, m_den, l0, Value.category, s_seq, s_if, s_st, s_ret, s_retz, s_retv, s_skip, s_sc, s_inc, s_call, e_c, e_li, e_lr, e_lj, e_un, e_bin, e_if, e_b, b_not, b_and, b_or, b_of, e_call, a_recv, a_snoc, a_nil, prI, prJ, prR, e_gi, e_gr, e_ai, e_ar, s_as, s_aop, s_pf, s_pfz, s_fop, l_set, l_ok, e_div, e_rem, e_len, s_tab, g_103_0, X7_at5, wr, rc_103, P1', bI, mI, q, c, am_no eB c, nI_next]
    · by_cases c : x = 104
      · subst c; exact P2
      · rw [P3 x c1 c c2 c3, h1, row_ne _ _ c]; exact I1 x c1 c2 c3
  · have e : ¬ nI 24 < (24 : Int32) := nlt_lit (n := 24) (by omega)
    simp [WB_X7_when_1, m_den, l0, Value.category, s_seq, s_if, s_st, s_ret, s_retz, s_retv, s_skip, s_sc, s_inc, s_call, e_c, e_li, e_lr, e_lj, e_un, e_bin, e_if, e_b, b_not, b_and, b_or, b_of, e_call, a_recv, a_snoc, a_nil, prI, prJ, prR, e_gi, e_gr, e_ai, e_ar, s_as, s_aop, s_pf, s_pfz, s_fop, l_set, l_ok, e_div, e_rem, e_len, s_tab, e]
theorem X6_when_no0 (f : FN) {c o n : Int32} (h : ¬ (0 ≤ c ∧ c ≤ f 1 2 - 1 ∧ 0 ≤ o ∧ o ≤ 5 ∧ 1 ≤ n ∧ n ≤ 24)) : D_X6_when [.ref 0, .int c, .int o, .int n] (memOf f) = some (.int (-1000001), memOf (row f 81 (upd (f 81) 0 (f 81 0 + 1)))) := by
  by_cases h1 : 0 ≤ c
  · by_cases h2 : c ≤ f 1 2 - 1
    · by_cases h3 : 0 ≤ o
      · by_cases h4 : o ≤ 5
        · by_cases h5 : 1 ≤ n
          · have h6 : ¬ (n ≤ 24) := fun q => h ⟨h1, h2, h3, h4, h5, q⟩
            simp [D_X6_when, S_X6_when, m_den, l0, Value.category, s_seq, s_if, s_st, s_ret, s_retz, s_retv, s_skip, s_sc, s_inc, s_call, e_c, e_li, e_lr, e_lj, e_un, e_bin, e_if, e_b, b_not, b_and, b_or, b_of, e_call, a_recv, a_snoc, a_nil, prI, prJ, prR, e_gi, e_gr, e_ai, e_ar, s_as, s_aop, s_pf, s_pfz, s_fop, l_set, l_ok, e_div, e_rem, e_len, s_tab, X6_isChimney, X6_isOwner, X6_isIn, rc_0, X6_fin_0, h1, h2, h3, h4, h5, h6]
          · simp [D_X6_when, S_X6_when, m_den, l0, Value.category, s_seq, s_if, s_st, s_ret, s_retz, s_retv, s_skip, s_sc, s_inc, s_call, e_c, e_li, e_lr, e_lj, e_un, e_bin, e_if, e_b, b_not, b_and, b_or, b_of, e_call, a_recv, a_snoc, a_nil, prI, prJ, prR, e_gi, e_gr, e_ai, e_ar, s_as, s_aop, s_pf, s_pfz, s_fop, l_set, l_ok, e_div, e_rem, e_len, s_tab, X6_isChimney, X6_isOwner, X6_isIn, rc_0, X6_fin_0, h1, h2, h3, h4, h5]
        · simp [D_X6_when, S_X6_when, m_den, l0, Value.category, s_seq, s_if, s_st, s_ret, s_retz, s_retv, s_skip, s_sc, s_inc, s_call, e_c, e_li, e_lr, e_lj, e_un, e_bin, e_if, e_b, b_not, b_and, b_or, b_of, e_call, a_recv, a_snoc, a_nil, prI, prJ, prR, e_gi, e_gr, e_ai, e_ar, s_as, s_aop, s_pf, s_pfz, s_fop, l_set, l_ok, e_div, e_rem, e_len, s_tab, X6_isChimney, X6_isOwner, X6_isIn, rc_0, X6_fin_0, h1, h2, h3, h4]
      · simp [D_X6_when, S_X6_when, m_den, l0, Value.category, s_seq, s_if, s_st, s_ret, s_retz, s_retv, s_skip, s_sc, s_inc, s_call, e_c, e_li, e_lr, e_lj, e_un, e_bin, e_if, e_b, b_not, b_and, b_or, b_of, e_call, a_recv, a_snoc, a_nil, prI, prJ, prR, e_gi, e_gr, e_ai, e_ar, s_as, s_aop, s_pf, s_pfz, s_fop, l_set, l_ok, e_div, e_rem, e_len, s_tab, X6_isChimney, X6_isOwner, X6_isIn, rc_0, X6_fin_0, h1, h2, h3]
    · simp [D_X6_when, S_X6_when, m_den, l0, Value.category, s_seq, s_if, s_st, s_ret, s_retz, s_retv, s_skip, s_sc, s_inc, s_call, e_c, e_li, e_lr, e_lj, e_un, e_bin, e_if, e_b, b_not, b_and, b_or, b_of, e_call, a_recv, a_snoc, a_nil, prI, prJ, prR, e_gi, e_gr, e_ai, e_ar, s_as, s_aop, s_pf, s_pfz, s_fop, l_set, l_ok, e_div, e_rem, e_len, s_tab, X6_isChimney, X6_isOwner, X6_isIn, rc_0, X6_fin_0, h1, h2]
  · simp [D_X6_when, S_X6_when, m_den, l0, Value.category, s_seq, s_if, s_st, s_ret, s_retz, s_retv, s_skip, s_sc, s_inc, s_call, e_c, e_li, e_lr, e_lj, e_un, e_bin, e_if, e_b, b_not, b_and, b_or, b_of, e_call, a_recv, a_snoc, a_nil, prI, prJ, prR, e_gi, e_gr, e_ai, e_ar, s_as, s_aop, s_pf, s_pfz, s_fop, l_set, l_ok, e_div, e_rem, e_len, s_tab, X6_isChimney, X6_isOwner, X6_isIn, rc_0, X6_fin_0, h1]
theorem X7_when_no0 (f : FN) {c o n : Int32} (h : ¬ (0 ≤ c ∧ c ≤ f 104 1 - 1 ∧ 0 ≤ o ∧ o ≤ 5 ∧ 1 ≤ n ∧ n ≤ 24)) : D_X7_when [.ref 103, .int c, .int o, .int n] (memOf f) = some (.int (-1000001), memOf (row f 107 (upd (f 107) 0 (f 107 0 + 1)))) := by
  by_cases h1 : 0 ≤ c
  · by_cases h2 : c ≤ f 104 1 - 1
    · by_cases h3 : 0 ≤ o
      · by_cases h4 : o ≤ 5
        · by_cases h5 : 1 ≤ n
          · have h6 : ¬ (n ≤ 24) := fun q => h ⟨h1, h2, h3, h4, h5, q⟩
            simp [D_X7_when, S_X7_when, m_den, l0, Value.category, s_seq, s_if, s_st, s_ret, s_retz, s_retv, s_skip, s_sc, s_inc, s_call, e_c, e_li, e_lr, e_lj, e_un, e_bin, e_if, e_b, b_not, b_and, b_or, b_of, e_call, a_recv, a_snoc, a_nil, prI, prJ, prR, e_gi, e_gr, e_ai, e_ar, s_as, s_aop, s_pf, s_pfz, s_fop, l_set, l_ok, e_div, e_rem, e_len, s_tab, X7_isChimney, X7_isOwner, X7_isDay, rc_103, X7_fin_0, h1, h2, h3, h4, h5, h6]
          · simp [D_X7_when, S_X7_when, m_den, l0, Value.category, s_seq, s_if, s_st, s_ret, s_retz, s_retv, s_skip, s_sc, s_inc, s_call, e_c, e_li, e_lr, e_lj, e_un, e_bin, e_if, e_b, b_not, b_and, b_or, b_of, e_call, a_recv, a_snoc, a_nil, prI, prJ, prR, e_gi, e_gr, e_ai, e_ar, s_as, s_aop, s_pf, s_pfz, s_fop, l_set, l_ok, e_div, e_rem, e_len, s_tab, X7_isChimney, X7_isOwner, X7_isDay, rc_103, X7_fin_0, h1, h2, h3, h4, h5]
        · simp [D_X7_when, S_X7_when, m_den, l0, Value.category, s_seq, s_if, s_st, s_ret, s_retz, s_retv, s_skip, s_sc, s_inc, s_call, e_c, e_li, e_lr, e_lj, e_un, e_bin, e_if, e_b, b_not, b_and, b_or, b_of, e_call, a_recv, a_snoc, a_nil, prI, prJ, prR, e_gi, e_gr, e_ai, e_ar, s_as, s_aop, s_pf, s_pfz, s_fop, l_set, l_ok, e_div, e_rem, e_len, s_tab, X7_isChimney, X7_isOwner, X7_isDay, rc_103, X7_fin_0, h1, h2, h3, h4]
      · simp [D_X7_when, S_X7_when, m_den, l0, Value.category, s_seq, s_if, s_st, s_ret, s_retz, s_retv, s_skip, s_sc, s_inc, s_call, e_c, e_li, e_lr, e_lj, e_un, e_bin, e_if, e_b, b_not, b_and, b_or, b_of, e_call, a_recv, a_snoc, a_nil, prI, prJ, prR, e_gi, e_gr, e_ai, e_ar, s_as, s_aop, s_pf, s_pfz, s_fop, l_set, l_ok, e_div, e_rem, e_len, s_tab, X7_isChimney, X7_isOwner, X7_isDay, rc_103, X7_fin_0, h1, h2, h3]
    · simp [D_X7_when, S_X7_when, m_den, l0, Value.category, s_seq, s_if, s_st, s_ret, s_retz, s_retv, s_skip, s_sc, s_inc, s_call, e_c, e_li, e_lr, e_lj, e_un, e_bin, e_if, e_b, b_not, b_and, b_or, b_of, e_call, a_recv, a_snoc, a_nil, prI, prJ, prR, e_gi, e_gr, e_ai, e_ar, s_as, s_aop, s_pf, s_pfz, s_fop, l_set, l_ok, e_div, e_rem, e_len, s_tab, X7_isChimney, X7_isOwner, X7_isDay, rc_103, X7_fin_0, h1, h2]
  · simp [D_X7_when, S_X7_when, m_den, l0, Value.category, s_seq, s_if, s_st, s_ret, s_retz, s_retv, s_skip, s_sc, s_inc, s_call, e_c, e_li, e_lr, e_lj, e_un, e_bin, e_if, e_b, b_not, b_and, b_or, b_of, e_call, a_recv, a_snoc, a_nil, prI, prJ, prR, e_gi, e_gr, e_ai, e_ar, s_as, s_aop, s_pf, s_pfz, s_fop, l_set, l_ok, e_div, e_rem, e_len, s_tab, X7_isChimney, X7_isOwner, X7_isDay, rc_103, X7_fin_0, h1]
theorem agr_when {f : FN} (h : REL f) (x y u : Int32) : AGR D_X6_when D_X7_when [.int x, .int y, .int u] f := by
  obtain ⟨⟨m, hT, hV⟩, -⟩ := id h
  obtain ⟨TRS, ro, wd, Q, bo, hh, w⟩ := TW.ex hT hV
  obtain ⟨⟨b1, b2, b3, b4⟩, hS, sp, ro', wd', bk', tk, bn⟩ := id w
  have em' := hS.1.1
  have m8 := hS.1.2
  by_cases hc : 0 ≤ x ∧ x ≤ nI m - 1 ∧ 0 ≤ y ∧ y ≤ 5 ∧ 1 ≤ u ∧ u ≤ 24
  · obtain ⟨k, hk, rfl⟩ := chi_ex ⟨hc.1, hc.2.1⟩ m8
    obtain ⟨o, ho, rfl⟩ := in_ex (n := 5) ⟨hc.2.2.1, hc.2.2.2.1⟩ (by omega)
    obtain ⟨a1, a2, a3, a4, a5, a6⟩ := hc
    obtain ⟨n, hn, rfl⟩ := in_ex (n := 24) ⟨Int32.le_trans (by decide) a5, a6⟩ (by omega)
    have hq := hor (h := hh) (n := n) b3 (by omega)
    by_cases hN : hh + n ≤ 9999
    · have hb := (hS.2.1 k hk).2
      obtain ⟨X, eX⟩ : ∃ X : Nat → Int32, X = fun v => nI (gD (updN (TRS k) 5 v) wd ro hh (Q k) n o) := ⟨_, rfl⟩
      obtain ⟨Y, eY⟩ : ∃ Y : Nat → Int32, Y = fun v => nI (restD TRS wd ro hh Q m n k o + gD (updN (TRS k) 5 v) wd ro hh (Q k) n o) := ⟨_, rfl⟩
      obtain ⟨BX, eBX⟩ : ∃ B : Nat → Nat → Bool, B = fun v b => decide (X v < X b) := ⟨_, rfl⟩
      obtain ⟨BY, eBY⟩ : ∃ B : Nat → Nat → Bool, B = fun v b => decide (Y v < Y b) := ⟨_, rfl⟩
      obtain ⟨y1, g1, A1, A2⟩ := X6_when_W f w hk (by omega) (by omega) hN eX eBX
      obtain ⟨p1, U1, U2, U3⟩ := X7_puts g1
      have P4 : p1 104 = f 104 := by rw [U2 104 (by omega), A2 104 (by omega)]
      have wp := w.congr (g := p1) (fun j hj => by rw [U2 j (by omega), A2 j (by omega)]) P4
      obtain ⟨y2, g2, C1, C2, C3⟩ := X7_when_W p1 wp (fun y hy => by rw [U3 y hy, A2 104 (by omega), P4]) hk (by omega) (by omega) hN eY eBY
      have eq : am BX 23 = am BY 23 := by
        refine am_congr (fun v b hv hb' => ?_)
        rw [eBX, eBY]
        simp only
        have c1 := gD_le w hk hN (updN_TB (j := 5) (v := v) hb (by simp only [lim]; omega)) o
        have c2 := gD_le w hk hN (updN_TB (j := 5) (v := b) hb (by simp only [lim]; omega)) o
        have c3 := restD_le w (k := k) hN o
        have e1 : X v < X b ↔ gD (updN (TRS k) 5 v) wd ro hh (Q k) n o < gD (updN (TRS k) 5 b) wd ro hh (Q k) n o := by
          rw [eX]; exact nI_lt_iff (by omega) (by omega)
        have e2 : Y v < Y b ↔ restD TRS wd ro hh Q m n k o + gD (updN (TRS k) 5 v) wd ro hh (Q k) n o < restD TRS wd ro hh Q m n k o + gD (updN (TRS k) 5 b) wd ro hh (Q k) n o := by
          rw [eY]; exact nI_lt_iff (by omega) (by omega)
        rw [decide_eq_decide, e1, e2]
        omega
      have g4 : g1 104 1 = nI m := by rw [A2 104 (by omega)]; exact em'
      have g5 : g1 104 0 = nI hh := by rw [A2 104 (by omega)]; exact b2
      refine ⟨nI (am BX 23), g1, g2, ?_, ?_, ?_⟩
      · simp [D_X6_when, S_X6_when, m_den, l0, Value.category, s_seq, s_if, s_st, s_ret, s_retz, s_retv, s_skip, s_sc, s_inc, s_call, e_c, e_li, e_lr, e_lj, e_un, e_bin, e_if, e_b, b_not, b_and, b_or, b_of, e_call, a_recv, a_snoc, a_nil, prI, prJ, prR, e_gi, e_gr, e_ai, e_ar, s_as, s_aop, s_pf, s_pfz, s_fop, l_set, l_ok, e_div, e_rem, e_len, s_tab, X6_isChimney, X6_isOwner, X6_isIn, b4, a1, a2, a3, a4, a5, a6, rc_0, X6_hasHours, b1, hq, hN, A1]
      · rw [eq]
        simp [D_X7_when, S_X7_when, m_den, l0, Value.category, s_seq, s_if, s_st, s_ret, s_retz, s_retv, s_skip, s_sc, s_inc, s_call, e_c, e_li, e_lr, e_lj, e_un, e_bin, e_if, e_b, b_not, b_and, b_or, b_of, e_call, a_recv, a_snoc, a_nil, prI, prJ, prR, e_gi, e_gr, e_ai, e_ar, s_as, s_aop, s_pf, s_pfz, s_fop, l_set, l_ok, e_div, e_rem, e_len, s_tab, X7_isChimney, X7_isOwner, X7_isDay, g4, g5, a1, a2, a3, a4, a5, a6, rc_103, X7_isTooFar, hq, hN, U1, C1]
      · refine h.trial (fun x c1 c2 c3 c4 c5 c6 c7 => ?_) (fun y hy => ?_)
        · rw [C2 x c2 c4 c5, U2 x c3, A2 x (by omega)]
        · rw [C3 y (by omega), U2 103 (by omega), A2 103 (by omega)]
    · refine agr_find (j := 4) (v := -1000005) h ?_ (fun g hg => ?_)
      · simp [D_X6_when, S_X6_when, m_den, l0, Value.category, s_seq, s_if, s_st, s_ret, s_retz, s_retv, s_skip, s_sc, s_inc, s_call, e_c, e_li, e_lr, e_lj, e_un, e_bin, e_if, e_b, b_not, b_and, b_or, b_of, e_call, a_recv, a_snoc, a_nil, prI, prJ, prR, e_gi, e_gr, e_ai, e_ar, s_as, s_aop, s_pf, s_pfz, s_fop, l_set, l_ok, e_div, e_rem, e_len, s_tab, X6_isChimney, X6_isOwner, X6_isIn, b4, a1, a2, a3, a4, a5, a6, rc_0, X6_hasHours, b1, hq, hN, X6_fin_4]
      · have b2' : g 104 0 = nI hh := by rw [hg.1]; exact b2
        have b3' : g 104 1 = nI m := by rw [hg.1]; exact em'
        simp [D_X7_when, S_X7_when, m_den, l0, Value.category, s_seq, s_if, s_st, s_ret, s_retz, s_retv, s_skip, s_sc, s_inc, s_call, e_c, e_li, e_lr, e_lj, e_un, e_bin, e_if, e_b, b_not, b_and, b_or, b_of, e_call, a_recv, a_snoc, a_nil, prI, prJ, prR, e_gi, e_gr, e_ai, e_ar, s_as, s_aop, s_pf, s_pfz, s_fop, l_set, l_ok, e_div, e_rem, e_len, s_tab, X7_isChimney, X7_isOwner, X7_isDay, b3', a1, a2, a3, a4, a5, a6, rc_103, X7_isTooFar, b2', hq, hN, X7_fin_4]
  · exact agr_find h (X6_when_no0 f (by rw [b4]; exact hc)) (fun g hg => X7_when_no0 g (by rw [hg.1, em']; exact hc))
