/-! place, highFor -/
theorem X6_richest_W (f : FN) {m : Nat} {TRS : Nat → Nat → Nat} {ro : Nat → Option Nat} {wd : Nat → Nat} {Q : Nat → SMK} {bo : Nat → Int} {h : Nat} (w : TW f m TRS ro wd Q bo h) {k j n : Nat} (hk : k < m) (hj : j < 7) (hn : n ≤ 24) (hN : h + n ≤ 9999) {X : Nat → Int32} {B : Nat → Nat → Bool} (eX : X = fun v => iI (gC (updN (TRS k) j v) wd ro h (Q k) n (TRS k 1))) (eB : B = fun v b => decide (X b < X v)) : ∃ y g, W_X6_richest_1 [.ref 0, .int (nI k), .int (nI j), .int (nI n), .int (nI (TRS k 1)), .int 0, .int 0, .int 0] (memOf f) = some (.inl ([.ref 0, .int (nI k), .int (nI j), .int (nI n), .int (nI (TRS k 1)), .int (nI (am B (lim j))), .int y, .int (nI (lim j + 1))], memOf g)) ∧ ∀ x, ¬ (82 ≤ x ∧ x ≤ 89) → g x = f x := by
  have hb := (w.2.1.2.1 k hk).2
  have k1 : TRS k 1 < 6 := by have := hb 1 (by omega); simp only [lim] at this; omega
  have hl : lim j ≤ 99 := by
    rcases lt7 hj with rfl | rfl | rfl | rfl | rfl | rfl | rfl <;> simp [lim]
  have key := while_rel (b := WB_X6_richest_1) (s := WS_X6_richest_1) (fun i => [.ref 0, .int (nI k), .int (nI j), .int (nI n), .int (nI (TRS k 1)), .int (bI 0 B i), .int (mI X B i), .int (nI i)]) (fun i g => ∀ x, ¬ (82 ≤ x ∧ x ≤ 89) → g x = f x) (lim j + 1) (by unfold FU; omega) (fun i g hi hI => ?_) (fun i g hi hI => ?_) (fun g hI => ?_) (f := f) (fun _ _ => rfl)
  · obtain ⟨g, W, I⟩ := key
    exact ⟨_, g, W, I⟩
  · have e : nI i ≤ nI (lim j) := (nI_le_iff (by omega) (by omega)).mpr (by omega)
    have r : gm_rd (memOf g) SPB (nI j) = some (nI (lim j)) := rd_lim (memOf g) hj
    simp [WB_X6_richest_1, m_den, l0, Value.category, s_seq, s_if, s_st, s_ret, s_retz, s_retv, s_skip, s_sc, s_inc, s_call, e_c, e_li, e_lr, e_lj, e_un, e_bin, e_if, e_b, b_not, b_and, b_or, b_of, e_call, a_recv, a_snoc, a_nil, prI, prJ, prR, e_gi, e_gr, e_ai, e_ar, s_as, s_aop, s_pf, s_pfz, s_fop, l_set, l_ok, e_div, e_rem, e_len, s_tab, r, e]
  · have wg := w.congr (g := g) (fun j hj => hI j (by omega)) (hI 104 (by omega))
    obtain ⟨g2, P1, P2, P3, P4⟩ := X6_playWith g wg hk hj (v := i) (by omega) hN
    rw [tlR_0] at P4
    have r := rd_87 g2 k1
    rw [P4.2.1 _ k1] at r
    have r' : gm_rd (memOf g2) 87 (nI (TRS k 1)) = some (X i) := by
      rw [r, eX]
      simp only [tl0, Int.zero_add]
      rfl
    refine ⟨g2, ?_, fun x hx => by rw [P2 x hx]; exact hI x hx⟩
    cases i with
    | zero =>
      have q : (nI 0 = 0) = True := eq_true rfl
      simp [WS_X6_richest_1, m_den, l0, Value.category, s_seq, s_if, s_st, s_ret, s_retz, s_retv, s_skip, s_sc, s_inc, s_call, e_c, e_li, e_lr, e_lj, e_un, e_bin, e_if, e_b, b_not, b_and, b_or, b_of, e_call, a_recv, a_snoc, a_nil, prI, prJ, prR, e_gi, e_gr, e_ai, e_ar, s_as, s_aop, s_pf, s_pfz, s_fop, l_set, l_ok, e_div, e_rem, e_len, s_tab, rc_0, P1, q, g_0_7, g_86_1, r', bI, mI, am, nI_next]
    | succ i =>
      have q : (nI (i + 1) = 0) = False := eq_false (fun e => absurd ((nI_inj (a := i + 1) (b := 0) (by omega) (by omega)).mp e) (by omega))
      by_cases c : X (am B i) < X (i + 1)
      · have e : am B (i + 1) = i + 1 := by
          show (if B (i + 1) (am B i) then i + 1 else am B i) = i + 1
          rw [eB] at c ⊢
          simp only
          rw [if_pos (decide_eq_true c)]
        simp [WS_X6_richest_1, m_den, l0, Value.category, s_seq, s_if, s_st, s_ret, s_retz, s_retv, s_skip, s_sc, s_inc, s_call, e_c, e_li, e_lr, e_lj, e_un, e_bin, e_if, e_b, b_not, b_and, b_or, b_of, e_call, a_recv, a_snoc, a_nil, prI, prJ, prR, e_gi, e_gr, e_ai, e_ar, s_as, s_aop, s_pf, s_pfz, s_fop, l_set, l_ok, e_div, e_rem, e_len, s_tab, rc_0, P1, q, g_0_7, g_86_1, r', bI, mI, c, e, nI_next]
      · have e : am B (i + 1) = am B i := by
          show (if B (i + 1) (am B i) then i + 1 else am B i) = am B i
          rw [eB] at c ⊢
          simp only
          rw [if_neg (by rw [decide_eq_true_iff]; exact c)]
        simp [WS_X6_richest_1, m_den, l0, Value.category, s_seq, s_if, s_st, s_ret, s_retz, s_retv, s_skip, s_sc, s_inc, s_call, e_c, e_li, e_lr, e_lj, e_un, e_bin, e_if, e_b, b_not, b_and, b_or, b_of, e_call, a_recv, a_snoc, a_nil, prI, prJ, prR, e_gi, e_gr, e_ai, e_ar, s_as, s_aop, s_pf, s_pfz, s_fop, l_set, l_ok, e_div, e_rem, e_len, s_tab, rc_0, P1, q, g_0_7, g_86_1, r', bI, mI, c, e, nI_next]
  · have e : ¬ nI (lim j + 1) ≤ nI (lim j) := fun q => absurd ((nI_le_iff (by omega) (by omega)).mp q) (by omega)
    have r : gm_rd (memOf g) SPB (nI j) = some (nI (lim j)) := rd_lim (memOf g) hj
    simp [WB_X6_richest_1, m_den, l0, Value.category, s_seq, s_if, s_st, s_ret, s_retz, s_retv, s_skip, s_sc, s_inc, s_call, e_c, e_li, e_lr, e_lj, e_un, e_bin, e_if, e_b, b_not, b_and, b_or, b_of, e_call, a_recv, a_snoc, a_nil, prI, prJ, prR, e_gi, e_gr, e_ai, e_ar, s_as, s_aop, s_pf, s_pfz, s_fop, l_set, l_ok, e_div, e_rem, e_len, s_tab, r, e]
theorem X7_bestPart_W (f : FN) {m : Nat} {TRS : Nat → Nat → Nat} {ro : Nat → Option Nat} {wd : Nat → Nat} {Q : Nat → SMK} {bo : Nat → Int} {h : Nat} (w : TW f m TRS ro wd Q bo h) (h6 : ∀ y, y < 735 → f 106 y = f 104 y) {k j n : Nat} (hk : k < m) (hj : j < 7) (hn : n ≤ 24) (hN : h + n ≤ 9999) {X : Nat → Int32} {B : Nat → Nat → Bool} (eX : X = fun v => iI (bo (TRS k 1) + restC TRS wd ro h Q m n k (TRS k 1) + gC (updN (TRS k) j v) wd ro h (Q k) n (TRS k 1))) (eB : B = fun v b => decide (X b < X v)) : ∃ y g, W_X7_bestPart_1 [.ref 103, .int (nI k), .int (nI j), .int (nI n), .int (nI (TRS k 1)), .int (-1), .int 0, .int 0] (memOf f) = some (.inl ([.ref 103, .int (nI k), .int (nI j), .int (nI n), .int (nI (TRS k 1)), .int (nI (am B (lim j))), .int y, .int (nI (lim j + 1))], memOf g)) ∧ (∀ x, x ≠ 103 → x ≠ 108 → x ≠ 109 → g x = f x) ∧ ∀ y, y ≠ 9 → g 103 y = f 103 y := by
  have hb := (w.2.1.2.1 k hk).2
  have hAl := w.A_le
  have k1 : TRS k 1 < 6 := by have := hb 1 (by omega); simp only [lim] at this; omega
  have m8 := w.2.1.1.2
  have hl : lim j ≤ 99 := by
    rcases lt7 hj with rfl | rfl | rfl | rfl | rfl | rfl | rfl <;> simp [lim]
  obtain ⟨⟨b1, b2, b3, b4⟩, hS, sp, ro', wd', bk', tk, bn⟩ := id w
  have key := while_rel (b := WB_X7_bestPart_1) (s := WS_X7_bestPart_1) (fun i => [.ref 103, .int (nI k), .int (nI j), .int (nI n), .int (nI (TRS k 1)), .int (bI (-1) B i), .int (mI X B i), .int (nI i)]) (fun i g => (∀ x, x ≠ 103 → x ≠ 108 → x ≠ 109 → g x = f x) ∧ ∀ y, y ≠ 9 → g 103 y = f 103 y) (lim j + 1) (by unfold FU; omega) (fun i g hi hI => ?_) (fun i g hi hI => ?_) (fun g hI => ?_) (f := f) ⟨fun _ _ _ _ => rfl, fun _ _ => rfl⟩
  · obtain ⟨g, W, I⟩ := key
    exact ⟨_, g, W, I⟩
  · have e : nI i ≤ nI (lim j) := (nI_le_iff (by omega) (by omega)).mpr (by omega)
    simp [WB_X7_bestPart_1, m_den, l0, Value.category, s_seq, s_if, s_st, s_ret, s_retz, s_retv, s_skip, s_sc, s_inc, s_call, e_c, e_li, e_lr, e_lj, e_un, e_bin, e_if, e_b, b_not, b_and, b_or, b_of, e_call, a_recv, a_snoc, a_nil, prI, prJ, prR, e_gi, e_gr, e_ai, e_ar, s_as, s_aop, s_pf, s_pfz, s_fop, l_set, l_ok, e_div, e_rem, e_len, s_tab, X7_mostOf _ hj, e]
  · obtain ⟨I1, I2⟩ := hI
    have e4 := I1 104 (by omega) (by omega) (by omega)
    obtain ⟨g1, h1⟩ : ∃ g1, g1 = row g 104 (upd (g 104) (63 + 7 * k + j) (nI i)) := ⟨_, rfl⟩
    have wr := wr_104 g (show 63 + 7 * k + j < 735 by omega) (nI i)
    rw [← h1] at wr
    have g14 : g1 104 = upd (f 104) (63 + 7 * k + j) (nI i) := by rw [h1, row_self, e4]
    have hS1 : HSt (g1 104) m (updT TRS k (updN (TRS k) j i)) ro wd := by rw [g14]; exact hS.trait hk hj (by omega)
    obtain ⟨g2, P1, P2, P3, P4⟩ := X7_bookBehind g1 (n := n) (o := TRS k 1) (Q := Q) (bo := bo) (s0 := f 104) hS1 (by rw [g14, upd_ne _ _ (by omega)]; exact b2) (fun x hx => by
      rw [g14]; exact (sp x hx).1.sig (fun y hy => upd_ne _ _ (by unfold inCh at hy; omega))) hAl hN (fun o ho => by rw [g14, upd_ne _ _ (by omega)]; exact (bk' o ho).2) (fun y hy => by rw [h1, row_ne _ _ (by omega), I1 106 (by omega) (by omega) (by omega)]; exact h6 y hy) (fun y hy => by rw [g14, upd_ne _ _ (by omega)]) k1
    rw [book_split hk, ← Int.add_assoc] at P1
    have P1' : D_X7_bookBehind [.ref 103, .int (nI (TRS k 1)), .int (nI n)] (memOf g1) = some (.int (X i), memOf g2) := by rw [P1, eX]
    refine ⟨g2, ?_, fun x c1 c2 c3 => ?_, fun y hy => by rw [P4 y hy, h1, row_ne _ _ (by omega)]; exact I2 y hy⟩
    · cases i with
      | zero =>
        have q : ((-1 : Int32) < 0) = True := eq_true (by decide)
        simp [WS_X7_bestPart_1, m_den, l0, Value.category, s_seq, s_if, s_st, s_ret, s_retz, s_retv, s_skip, s_sc, s_inc, s_call, e_c, e_li, e_lr, e_lj, e_un, e_bin, e_if, e_b, b_not, b_and, b_or, b_of, e_call, a_recv, a_snoc, a_nil, prI, prJ, prR, e_gi, e_gr, e_ai, e_ar, s_as, s_aop, s_pf, s_pfz, s_fop, l_set, l_ok, e_div, e_rem, e_len, s_tab, g_103_0, X7_at, wr, rc_103, P1', bI, mI, am, q, nI_next]
      | succ i =>
        have q : (nI (am B i) < 0) = False := eq_false (Int32.not_lt.mpr (nI_pos' (by have := am_le B i; omega)))
        by_cases c : X (am B i) < X (i + 1)
        · have e : am B (i + 1) = i + 1 := by
            show (if B (i + 1) (am B i) then i + 1 else am B i) = i + 1
            rw [eB] at c ⊢
            simp only
            rw [if_pos (decide_eq_true c)]
          simp [WS_X7_bestPart_1, m_den, l0, Value.category, s_seq, s_if, s_st, s_ret, s_retz, s_retv, s_skip, s_sc, s_inc, s_call, e_c, e_li, e_lr, e_lj, e_un, e_bin, e_if, e_b, b_not, b_and, b_or, b_of, e_call, a_recv, a_snoc, a_nil, prI, prJ, prR, e_gi, e_gr, e_ai, e_ar, s_as, s_aop, s_pf, s_pfz, s_fop, l_set, l_ok, e_div, e_rem, e_len, s_tab, g_103_0, X7_at, wr, rc_103, P1', bI, mI, q, c, e, nI_next]
        · have e : am B (i + 1) = am B i := by
            show (if B (i + 1) (am B i) then i + 1 else am B i) = am B i
            rw [eB] at c ⊢
            simp only
            rw [if_neg (by rw [decide_eq_true_iff]; exact c)]
          simp [WS_X7_bestPart_1, m_den, l0, Value.category, s_seq, s_if, s_st, s_ret, s_retz, s_retv, s_skip, s_sc, s_inc, s_call, e_c, e_li, e_lr, e_lj, e_un, e_bin, e_if, e_b, b_not, b_and, b_or, b_of, e_call, a_recv, a_snoc, a_nil, prI, prJ, prR, e_gi, e_gr, e_ai, e_ar, s_as, s_aop, s_pf, s_pfz, s_fop, l_set, l_ok, e_div, e_rem, e_len, s_tab, g_103_0, X7_at, wr, rc_103, P1', bI, mI, q, c, e, nI_next]
    · by_cases c : x = 104
      · subst c; exact P2
      · rw [P3 x c1 c c2 c3, h1, row_ne _ _ c]; exact I1 x c1 c2 c3
  · have e : ¬ nI (lim j + 1) ≤ nI (lim j) := fun q => absurd ((nI_le_iff (by omega) (by omega)).mp q) (by omega)
    simp [WB_X7_bestPart_1, m_den, l0, Value.category, s_seq, s_if, s_st, s_ret, s_retz, s_retv, s_skip, s_sc, s_inc, s_call, e_c, e_li, e_lr, e_lj, e_un, e_bin, e_if, e_b, b_not, b_and, b_or, b_of, e_call, a_recv, a_snoc, a_nil, prI, prJ, prR, e_gi, e_gr, e_ai, e_ar, s_as, s_aop, s_pf, s_pfz, s_fop, l_set, l_ok, e_div, e_rem, e_len, s_tab, X7_mostOf _ hj, e]
theorem X6_richest_no (f : FN) {c t n : Int32} (h : ¬ (0 ≤ c ∧ c ≤ f 1 2 - 1 ∧ 1 ≤ n ∧ n ≤ 24)) : D_X6_richest [.ref 0, .int c, .int t, .int n] (memOf f) = some (.int (-1000001), memOf (row f 81 (upd (f 81) 0 (f 81 0 + 1)))) := by
  by_cases h1 : 0 ≤ c
  · by_cases h2 : c ≤ f 1 2 - 1
    · by_cases h3 : 1 ≤ n
      · have h4 : ¬ n ≤ 24 := fun q => h ⟨h1, h2, h3, q⟩
        simp [D_X6_richest, S_X6_richest, m_den, l0, Value.category, s_seq, s_if, s_st, s_ret, s_retz, s_retv, s_skip, s_sc, s_inc, s_call, e_c, e_li, e_lr, e_lj, e_un, e_bin, e_if, e_b, b_not, b_and, b_or, b_of, e_call, a_recv, a_snoc, a_nil, prI, prJ, prR, e_gi, e_gr, e_ai, e_ar, s_as, s_aop, s_pf, s_pfz, s_fop, l_set, l_ok, e_div, e_rem, e_len, s_tab, X6_isChimney, X6_isIn, rc_0, X6_fin_0, h1, h2, h3, h4]
      · simp [D_X6_richest, S_X6_richest, m_den, l0, Value.category, s_seq, s_if, s_st, s_ret, s_retz, s_retv, s_skip, s_sc, s_inc, s_call, e_c, e_li, e_lr, e_lj, e_un, e_bin, e_if, e_b, b_not, b_and, b_or, b_of, e_call, a_recv, a_snoc, a_nil, prI, prJ, prR, e_gi, e_gr, e_ai, e_ar, s_as, s_aop, s_pf, s_pfz, s_fop, l_set, l_ok, e_div, e_rem, e_len, s_tab, X6_isChimney, X6_isIn, rc_0, X6_fin_0, h1, h2, h3]
    · simp [D_X6_richest, S_X6_richest, m_den, l0, Value.category, s_seq, s_if, s_st, s_ret, s_retz, s_retv, s_skip, s_sc, s_inc, s_call, e_c, e_li, e_lr, e_lj, e_un, e_bin, e_if, e_b, b_not, b_and, b_or, b_of, e_call, a_recv, a_snoc, a_nil, prI, prJ, prR, e_gi, e_gr, e_ai, e_ar, s_as, s_aop, s_pf, s_pfz, s_fop, l_set, l_ok, e_div, e_rem, e_len, s_tab, X6_isChimney, X6_isIn, rc_0, X6_fin_0, h1, h2]
  · simp [D_X6_richest, S_X6_richest, m_den, l0, Value.category, s_seq, s_if, s_st, s_ret, s_retz, s_retv, s_skip, s_sc, s_inc, s_call, e_c, e_li, e_lr, e_lj, e_un, e_bin, e_if, e_b, b_not, b_and, b_or, b_of, e_call, a_recv, a_snoc, a_nil, prI, prJ, prR, e_gi, e_gr, e_ai, e_ar, s_as, s_aop, s_pf, s_pfz, s_fop, l_set, l_ok, e_div, e_rem, e_len, s_tab, X6_isChimney, X6_isIn, rc_0, X6_fin_0, h1]
/-- the two searches find the same -/
theorem rich_eq {f : FN} (h : REL f) {j : Nat} (hj : j < 7) {m k n : Nat} (hT : TR f 1 (f 104) m) (hV : TV (f 104) m) (hk : k < m) (hn1 : 1 ≤ n) (hn : n ≤ 24) {hh : Nat} (eh : f 1 0 = nI hh) (hh9 : hh ≤ 9999) (hN : hh + n ≤ 9999) : ∃ r g1 g2, D_X6_richest [.ref 0, .int (nI k), .int (nI j), .int (nI n)] (memOf f) = some (.int r, memOf g1) ∧ (∀ x, ¬ (82 ≤ x ∧ x ≤ 89) → g1 x = f x) ∧ D_X7_bestPart [.ref 103, .int (nI k), .int (nI j), .int (nI n)] (memOf g1) = some (.int r, memOf g2) ∧ REL g2 := by
  obtain ⟨TRS, ro, wd, Q, bo, h0, w⟩ := TW.ex hT hV
  have e0 : h0 = hh := by
    have a := w.1.1
    rw [eh] at a
    exact ((nI_inj (by omega) (by have := w.1.2.2.1; omega)).mp a).symm
  subst e0
  have hb := (w.2.1.2.1 k hk).2
  have k1 : TRS k 1 < 6 := by have := hb 1 (by omega); simp only [lim] at this; omega
  obtain ⟨⟨b1, b2, b3, b4⟩, hS, sp, ro', wd', bk', tk, bn⟩ := id w
  have em' := hS.1.1
  have m8 := hS.1.2
  obtain ⟨X, eX⟩ : ∃ X : Nat → Int32, X = fun v => iI (gC (updN (TRS k) j v) wd ro h0 (Q k) n (TRS k 1)) := ⟨_, rfl⟩
  obtain ⟨Y, eY⟩ : ∃ Y : Nat → Int32, Y = fun v => iI (bo (TRS k 1) + restC TRS wd ro h0 Q m n k (TRS k 1) + gC (updN (TRS k) j v) wd ro h0 (Q k) n (TRS k 1)) := ⟨_, rfl⟩
  obtain ⟨BX, eBX⟩ : ∃ B : Nat → Nat → Bool, B = fun v b => decide (X b < X v) := ⟨_, rfl⟩
  obtain ⟨BY, eBY⟩ : ∃ B : Nat → Nat → Bool, B = fun v b => decide (Y b < Y v) := ⟨_, rfl⟩
  obtain ⟨y1, g1, A1, A2⟩ := X6_richest_W f w hk hj hn hN eX eBX
  obtain ⟨p1, U1, U2, U3⟩ := X7_puts g1
  have P4 : p1 104 = f 104 := by rw [U2 104 (by omega), A2 104 (by omega)]
  have wp := w.congr (g := p1) (fun j hj => by rw [U2 j (by omega), A2 j (by omega)]) P4
  obtain ⟨y2, g2, C1, C2, C3⟩ := X7_bestPart_W p1 wp (fun y hy => by rw [U3 y hy, A2 104 (by omega), P4]) hk hj hn hN eY eBY
  have eq : am BX (lim j) = am BY (lim j) := by
    refine am_congr (fun v b hv hb' => ?_)
    rw [eBX, eBY]
    simp only
    have c1 := gC_bnd w hk hN (updN_TB hb hv) (TRS k 1)
    have c2 := gC_bnd w hk hN (updN_TB hb hb') (TRS k 1)
    have c3 := restC_bnd w (k := k) hN (TRS k 1) k1
    have e1 : X b < X v ↔ gC (updN (TRS k) j b) wd ro h0 (Q k) n (TRS k 1) < gC (updN (TRS k) j v) wd ro h0 (Q k) n (TRS k 1) := by
      rw [eX]; exact iI_lt_iff (by unfold bnd at *; omega) (by unfold bnd at *; omega)
    have e2 : Y b < Y v ↔ bo (TRS k 1) + restC TRS wd ro h0 Q m n k (TRS k 1) + gC (updN (TRS k) j b) wd ro h0 (Q k) n (TRS k 1) < bo (TRS k 1) + restC TRS wd ro h0 Q m n k (TRS k 1) + gC (updN (TRS k) j v) wd ro h0 (Q k) n (TRS k 1) := by
      rw [eY]; exact iI_lt_iff (by unfold bnd at *; omega) (by unfold bnd at *; omega)
    rw [decide_eq_decide, e1, e2]
    omega
  have a1 : (0 : Int32) ≤ nI k := nI_pos' (by omega)
  have a2 := chi_le hk m8
  have a3 : (1 : Int32) ≤ nI n := (nI_le_iff (a := 1) (b := n) (by omega) (by omega)).mpr hn1
  have a4 : nI n ≤ (24 : Int32) := le_lit (n := 24) hn (by omega)
  have hq := hor (h := h0) (n := n) b3 (by omega)
  have hC := isCh_town (b := 1) (c := k) (Or.inl rfl) (by omega)
  have t1 := (sp k hk).2.2 1 (by omega)
  refine ⟨nI (am BX (lim j)), g1, g2, ?_, A2, ?_, ?_⟩
  · simp [D_X6_richest, S_X6_richest, m_den, l0, Value.category, s_seq, s_if, s_st, s_ret, s_retz, s_retv, s_skip, s_sc, s_inc, s_call, e_c, e_li, e_lr, e_lj, e_un, e_bin, e_if, e_b, b_not, b_and, b_or, b_of, e_call, a_recv, a_snoc, a_nil, prI, prJ, prR, e_gi, e_gr, e_ai, e_ar, s_as, s_aop, s_pf, s_pfz, s_fop, l_set, l_ok, e_div, e_rem, e_len, s_tab, X6_isChimney, X6_isIn, b4, a1, a2, a3, a4, rc_0, X6_hasHours, b1, hq, hN, g_0_0, g_1_7, rr_6 f (show k < 8 by omega), gch0 f hC, rdt1 f hC, t1, A1]
  · have i1 := X7_its1 g1 (k := k) (by omega)
    rw [A2 104 (by omega), (hS.2.1 k hk).1 1 (by omega)] at i1
    rw [eq]
    simp [D_X7_bestPart, S_X7_bestPart, m_den, l0, Value.category, s_seq, s_if, s_st, s_ret, s_retz, s_retv, s_skip, s_sc, s_inc, s_call, e_c, e_li, e_lr, e_lj, e_un, e_bin, e_if, e_b, b_not, b_and, b_or, b_of, e_call, a_recv, a_snoc, a_nil, prI, prJ, prR, e_gi, e_gr, e_ai, e_ar, s_as, s_aop, s_pf, s_pfz, s_fop, l_set, l_ok, e_div, e_rem, e_len, s_tab, rc_103, i1, U1, C1]
  · refine h.trial (fun x c1 c2 c3 c4 c5 c6 c7 => ?_) (fun y hy => ?_)
    · rw [C2 x c2 c4 c5, U2 x c3, A2 x (by omega)]
    · rw [C3 y (by omega), U2 103 (by omega), A2 103 (by omega)]
theorem X7_place_no0 (f : FN) {c n : Int32} (h : ¬ (0 ≤ c ∧ c ≤ f 104 1 - 1 ∧ 1 ≤ n ∧ n ≤ 24)) : D_X7_place [.ref 103, .int c, .int n] (memOf f) = some (.int (-1000001), memOf (row f 107 (upd (f 107) 0 (f 107 0 + 1)))) := by
  by_cases h1 : 0 ≤ c
  · by_cases h2 : c ≤ f 104 1 - 1
    · by_cases h3 : 1 ≤ n
      · have h4 : ¬ (n ≤ 24) := fun q => h ⟨h1, h2, h3, q⟩
        simp [D_X7_place, S_X7_place, m_den, l0, Value.category, s_seq, s_if, s_st, s_ret, s_retz, s_retv, s_skip, s_sc, s_inc, s_call, e_c, e_li, e_lr, e_lj, e_un, e_bin, e_if, e_b, b_not, b_and, b_or, b_of, e_call, a_recv, a_snoc, a_nil, prI, prJ, prR, e_gi, e_gr, e_ai, e_ar, s_as, s_aop, s_pf, s_pfz, s_fop, l_set, l_ok, e_div, e_rem, e_len, s_tab, X7_isChimney, X7_isDay, rc_103, X7_fin_0, h1, h2, h3, h4]
      · simp [D_X7_place, S_X7_place, m_den, l0, Value.category, s_seq, s_if, s_st, s_ret, s_retz, s_retv, s_skip, s_sc, s_inc, s_call, e_c, e_li, e_lr, e_lj, e_un, e_bin, e_if, e_b, b_not, b_and, b_or, b_of, e_call, a_recv, a_snoc, a_nil, prI, prJ, prR, e_gi, e_gr, e_ai, e_ar, s_as, s_aop, s_pf, s_pfz, s_fop, l_set, l_ok, e_div, e_rem, e_len, s_tab, X7_isChimney, X7_isDay, rc_103, X7_fin_0, h1, h2, h3]
    · simp [D_X7_place, S_X7_place, m_den, l0, Value.category, s_seq, s_if, s_st, s_ret, s_retz, s_retv, s_skip, s_sc, s_inc, s_call, e_c, e_li, e_lr, e_lj, e_un, e_bin, e_if, e_b, b_not, b_and, b_or, b_of, e_call, a_recv, a_snoc, a_nil, prI, prJ, prR, e_gi, e_gr, e_ai, e_ar, s_as, s_aop, s_pf, s_pfz, s_fop, l_set, l_ok, e_div, e_rem, e_len, s_tab, X7_isChimney, X7_isDay, rc_103, X7_fin_0, h1, h2]
  · simp [D_X7_place, S_X7_place, m_den, l0, Value.category, s_seq, s_if, s_st, s_ret, s_retz, s_retv, s_skip, s_sc, s_inc, s_call, e_c, e_li, e_lr, e_lj, e_un, e_bin, e_if, e_b, b_not, b_and, b_or, b_of, e_call, a_recv, a_snoc, a_nil, prI, prJ, prR, e_gi, e_gr, e_ai, e_ar, s_as, s_aop, s_pf, s_pfz, s_fop, l_set, l_ok, e_div, e_rem, e_len, s_tab, X7_isChimney, X7_isDay, rc_103, X7_fin_0, h1]
theorem X7_highFor_no0 (f : FN) {c n : Int32} (h : ¬ (0 ≤ c ∧ c ≤ f 104 1 - 1 ∧ 1 ≤ n ∧ n ≤ 24)) : D_X7_highFor [.ref 103, .int c, .int n] (memOf f) = some (.int (-1000001), memOf (row f 107 (upd (f 107) 0 (f 107 0 + 1)))) := by
  by_cases h1 : 0 ≤ c
  · by_cases h2 : c ≤ f 104 1 - 1
    · by_cases h3 : 1 ≤ n
      · have h4 : ¬ (n ≤ 24) := fun q => h ⟨h1, h2, h3, q⟩
        simp [D_X7_highFor, S_X7_highFor, m_den, l0, Value.category, s_seq, s_if, s_st, s_ret, s_retz, s_retv, s_skip, s_sc, s_inc, s_call, e_c, e_li, e_lr, e_lj, e_un, e_bin, e_if, e_b, b_not, b_and, b_or, b_of, e_call, a_recv, a_snoc, a_nil, prI, prJ, prR, e_gi, e_gr, e_ai, e_ar, s_as, s_aop, s_pf, s_pfz, s_fop, l_set, l_ok, e_div, e_rem, e_len, s_tab, X7_isChimney, X7_isDay, rc_103, X7_fin_0, h1, h2, h3, h4]
      · simp [D_X7_highFor, S_X7_highFor, m_den, l0, Value.category, s_seq, s_if, s_st, s_ret, s_retz, s_retv, s_skip, s_sc, s_inc, s_call, e_c, e_li, e_lr, e_lj, e_un, e_bin, e_if, e_b, b_not, b_and, b_or, b_of, e_call, a_recv, a_snoc, a_nil, prI, prJ, prR, e_gi, e_gr, e_ai, e_ar, s_as, s_aop, s_pf, s_pfz, s_fop, l_set, l_ok, e_div, e_rem, e_len, s_tab, X7_isChimney, X7_isDay, rc_103, X7_fin_0, h1, h2, h3]
    · simp [D_X7_highFor, S_X7_highFor, m_den, l0, Value.category, s_seq, s_if, s_st, s_ret, s_retz, s_retv, s_skip, s_sc, s_inc, s_call, e_c, e_li, e_lr, e_lj, e_un, e_bin, e_if, e_b, b_not, b_and, b_or, b_of, e_call, a_recv, a_snoc, a_nil, prI, prJ, prR, e_gi, e_gr, e_ai, e_ar, s_as, s_aop, s_pf, s_pfz, s_fop, l_set, l_ok, e_div, e_rem, e_len, s_tab, X7_isChimney, X7_isDay, rc_103, X7_fin_0, h1, h2]
  · simp [D_X7_highFor, S_X7_highFor, m_den, l0, Value.category, s_seq, s_if, s_st, s_ret, s_retz, s_retv, s_skip, s_sc, s_inc, s_call, e_c, e_li, e_lr, e_lj, e_un, e_bin, e_if, e_b, b_not, b_and, b_or, b_of, e_call, a_recv, a_snoc, a_nil, prI, prJ, prR, e_gi, e_gr, e_ai, e_ar, s_as, s_aop, s_pf, s_pfz, s_fop, l_set, l_ok, e_div, e_rem, e_len, s_tab, X7_isChimney, X7_isDay, rc_103, X7_fin_0, h1]
theorem agr_place {f : FN} (h : REL f) (x u : Int32) : AGR D_X6_place D_X7_place [.int x, .int u] f := by
  obtain ⟨⟨m, hT, hV⟩, -⟩ := id h
  have em : f 1 2 = nI m := hT.1.2.2.2.1
  have em' : f 104 1 = nI m := hT.1.2.1.trans em
  have m8 := hT.1.2.2.2.2
  by_cases hc : 0 ≤ x ∧ x ≤ nI m - 1 ∧ 1 ≤ u ∧ u ≤ 24
  · obtain ⟨k, hk, rfl⟩ := chi_ex ⟨hc.1, hc.2.1⟩ m8
    obtain ⟨a1, a2, a3, a4⟩ := hc
    obtain ⟨n, hn, rfl⟩ := in_ex (n := 24) ⟨Int32.le_trans (by decide) a3, a4⟩ (by omega)
    have hn1 : 1 ≤ n := (nI_le_iff (a := 1) (b := n) (by omega) (by omega)).mp a3
    obtain ⟨⟨hh, c1, c2, -⟩, -⟩ := id hV
    have c3 : f 1 0 = nI hh := hT.1.1.symm.trans c2
    have hq := hor (h := hh) (n := n) c1 (by omega)
    by_cases hN : hh + n ≤ 9999
    · obtain ⟨r, g1, g2, R1, R2, R3, R4⟩ := rich_eq h (j := 2) (by omega) hT hV hk hn1 (by omega) c3 c1 hN
      have z : nI 2 = 2 := rfl
      rw [z] at R1 R3
      have g4 : g1 104 1 = nI m := by rw [R2 104 (by omega)]; exact em'
      have g5 : g1 104 0 = nI hh := by rw [R2 104 (by omega)]; exact c2
      refine ⟨r, g1, g2, ?_, ?_, R4⟩
      · simp [D_X6_place, S_X6_place, m_den, l0, Value.category, s_seq, s_if, s_st, s_ret, s_retz, s_retv, s_skip, s_sc, s_inc, s_call, e_c, e_li, e_lr, e_lj, e_un, e_bin, e_if, e_b, b_not, b_and, b_or, b_of, e_call, a_recv, a_snoc, a_nil, prI, prJ, prR, e_gi, e_gr, e_ai, e_ar, s_as, s_aop, s_pf, s_pfz, s_fop, l_set, l_ok, e_div, e_rem, e_len, s_tab, rc_0, R1]
      · simp [D_X7_place, S_X7_place, m_den, l0, Value.category, s_seq, s_if, s_st, s_ret, s_retz, s_retv, s_skip, s_sc, s_inc, s_call, e_c, e_li, e_lr, e_lj, e_un, e_bin, e_if, e_b, b_not, b_and, b_or, b_of, e_call, a_recv, a_snoc, a_nil, prI, prJ, prR, e_gi, e_gr, e_ai, e_ar, s_as, s_aop, s_pf, s_pfz, s_fop, l_set, l_ok, e_div, e_rem, e_len, s_tab, X7_isChimney, X7_isDay, g4, g5, a1, a2, a3, a4, rc_103, X7_isTooFar, hq, hN, R3]
    · refine agr_find (j := 4) (v := -1000005) h ?_ (fun g hg => ?_)
      · simp [D_X6_place, S_X6_place, D_X6_richest, S_X6_richest, m_den, l0, Value.category, s_seq, s_if, s_st, s_ret, s_retz, s_retv, s_skip, s_sc, s_inc, s_call, e_c, e_li, e_lr, e_lj, e_un, e_bin, e_if, e_b, b_not, b_and, b_or, b_of, e_call, a_recv, a_snoc, a_nil, prI, prJ, prR, e_gi, e_gr, e_ai, e_ar, s_as, s_aop, s_pf, s_pfz, s_fop, l_set, l_ok, e_div, e_rem, e_len, s_tab, X6_isChimney, X6_isIn, em, a1, a2, a3, a4, rc_0, X6_hasHours, c3, hq, hN, X6_fin_4]
      · have b2' : g 104 0 = nI hh := by rw [hg.1]; exact c2
        have b3' : g 104 1 = nI m := by rw [hg.1]; exact em'
        simp [D_X7_place, S_X7_place, m_den, l0, Value.category, s_seq, s_if, s_st, s_ret, s_retz, s_retv, s_skip, s_sc, s_inc, s_call, e_c, e_li, e_lr, e_lj, e_un, e_bin, e_if, e_b, b_not, b_and, b_or, b_of, e_call, a_recv, a_snoc, a_nil, prI, prJ, prR, e_gi, e_gr, e_ai, e_ar, s_as, s_aop, s_pf, s_pfz, s_fop, l_set, l_ok, e_div, e_rem, e_len, s_tab, X7_isChimney, X7_isDay, b3', a1, a2, a3, a4, rc_103, X7_isTooFar, b2', hq, hN, X7_fin_4]
  · refine agr_find h ?_ (fun g hg => X7_place_no0 g (by rw [hg.1, em']; exact hc))
    have := X6_richest_no f (c := x) (t := 2) (n := u) (by rw [em]; exact hc)
    simp [D_X6_place, S_X6_place, m_den, l0, Value.category, s_seq, s_if, s_st, s_ret, s_retz, s_retv, s_skip, s_sc, s_inc, s_call, e_c, e_li, e_lr, e_lj, e_un, e_bin, e_if, e_b, b_not, b_and, b_or, b_of, e_call, a_recv, a_snoc, a_nil, prI, prJ, prR, e_gi, e_gr, e_ai, e_ar, s_as, s_aop, s_pf, s_pfz, s_fop, l_set, l_ok, e_div, e_rem, e_len, s_tab, rc_0, this]
theorem agr_highFor {f : FN} (h : REL f) (x u : Int32) : AGR D_X6_highFor D_X7_highFor [.int x, .int u] f := by
  obtain ⟨⟨m, hT, hV⟩, -⟩ := id h
  have em : f 1 2 = nI m := hT.1.2.2.2.1
  have em' : f 104 1 = nI m := hT.1.2.1.trans em
  have m8 := hT.1.2.2.2.2
  by_cases hc : 0 ≤ x ∧ x ≤ nI m - 1 ∧ 1 ≤ u ∧ u ≤ 24
  · obtain ⟨k, hk, rfl⟩ := chi_ex ⟨hc.1, hc.2.1⟩ m8
    obtain ⟨a1, a2, a3, a4⟩ := hc
    obtain ⟨n, hn, rfl⟩ := in_ex (n := 24) ⟨Int32.le_trans (by decide) a3, a4⟩ (by omega)
    have hn1 : 1 ≤ n := (nI_le_iff (a := 1) (b := n) (by omega) (by omega)).mp a3
    obtain ⟨⟨hh, c1, c2, -⟩, -⟩ := id hV
    have c3 : f 1 0 = nI hh := hT.1.1.symm.trans c2
    have hq := hor (h := hh) (n := n) c1 (by omega)
    by_cases hN : hh + n ≤ 9999
    · obtain ⟨r, g1, g2, R1, R2, R3, R4⟩ := rich_eq h (j := 3) (by omega) hT hV hk hn1 (by omega) c3 c1 hN
      have z : nI 3 = 3 := rfl
      rw [z] at R1 R3
      have g4 : g1 104 1 = nI m := by rw [R2 104 (by omega)]; exact em'
      have g5 : g1 104 0 = nI hh := by rw [R2 104 (by omega)]; exact c2
      refine ⟨r, g1, g2, ?_, ?_, R4⟩
      · simp [D_X6_highFor, S_X6_highFor, m_den, l0, Value.category, s_seq, s_if, s_st, s_ret, s_retz, s_retv, s_skip, s_sc, s_inc, s_call, e_c, e_li, e_lr, e_lj, e_un, e_bin, e_if, e_b, b_not, b_and, b_or, b_of, e_call, a_recv, a_snoc, a_nil, prI, prJ, prR, e_gi, e_gr, e_ai, e_ar, s_as, s_aop, s_pf, s_pfz, s_fop, l_set, l_ok, e_div, e_rem, e_len, s_tab, rc_0, R1]
      · simp [D_X7_highFor, S_X7_highFor, m_den, l0, Value.category, s_seq, s_if, s_st, s_ret, s_retz, s_retv, s_skip, s_sc, s_inc, s_call, e_c, e_li, e_lr, e_lj, e_un, e_bin, e_if, e_b, b_not, b_and, b_or, b_of, e_call, a_recv, a_snoc, a_nil, prI, prJ, prR, e_gi, e_gr, e_ai, e_ar, s_as, s_aop, s_pf, s_pfz, s_fop, l_set, l_ok, e_div, e_rem, e_len, s_tab, X7_isChimney, X7_isDay, g4, g5, a1, a2, a3, a4, rc_103, X7_isTooFar, hq, hN, R3]
    · refine agr_find (j := 4) (v := -1000005) h ?_ (fun g hg => ?_)
      · simp [D_X6_highFor, S_X6_highFor, D_X6_richest, S_X6_richest, m_den, l0, Value.category, s_seq, s_if, s_st, s_ret, s_retz, s_retv, s_skip, s_sc, s_inc, s_call, e_c, e_li, e_lr, e_lj, e_un, e_bin, e_if, e_b, b_not, b_and, b_or, b_of, e_call, a_recv, a_snoc, a_nil, prI, prJ, prR, e_gi, e_gr, e_ai, e_ar, s_as, s_aop, s_pf, s_pfz, s_fop, l_set, l_ok, e_div, e_rem, e_len, s_tab, X6_isChimney, X6_isIn, em, a1, a2, a3, a4, rc_0, X6_hasHours, c3, hq, hN, X6_fin_4]
      · have b2' : g 104 0 = nI hh := by rw [hg.1]; exact c2
        have b3' : g 104 1 = nI m := by rw [hg.1]; exact em'
        simp [D_X7_highFor, S_X7_highFor, m_den, l0, Value.category, s_seq, s_if, s_st, s_ret, s_retz, s_retv, s_skip, s_sc, s_inc, s_call, e_c, e_li, e_lr, e_lj, e_un, e_bin, e_if, e_b, b_not, b_and, b_or, b_of, e_call, a_recv, a_snoc, a_nil, prI, prJ, prR, e_gi, e_gr, e_ai, e_ar, s_as, s_aop, s_pf, s_pfz, s_fop, l_set, l_ok, e_div, e_rem, e_len, s_tab, X7_isChimney, X7_isDay, b3', a1, a2, a3, a4, rc_103, X7_isTooFar, b2', hq, hN, X7_fin_4]
  · refine agr_find h ?_ (fun g hg => X7_highFor_no0 g (by rw [hg.1, em']; exact hc))
    have := X6_richest_no f (c := x) (t := 3) (n := u) (by rw [em]; exact hc)
    simp [D_X6_highFor, S_X6_highFor, m_den, l0, Value.category, s_seq, s_if, s_st, s_ret, s_retz, s_retv, s_skip, s_sc, s_inc, s_call, e_c, e_li, e_lr, e_lj, e_un, e_bin, e_if, e_b, b_not, b_and, b_or, b_of, e_call, a_recv, a_snoc, a_nil, prI, prJ, prR, e_gi, e_gr, e_ai, e_ar, s_as, s_aop, s_pf, s_pfz, s_fop, l_set, l_ok, e_div, e_rem, e_len, s_tab, rc_0, this]
