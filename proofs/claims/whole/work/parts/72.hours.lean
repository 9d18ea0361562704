/-! hours -/
def nO (TRS : Nat → Nat → Nat) (wd : Nat → Nat) (ro : Nat → Option Nat) (h : Nat) (Q : Nat → SMK) (j k o : Nat) : Nat := dO (TRS k) wd (bM (TRS k)) ro h j (Q k) o
def tlC (TRS : Nat → Nat → Nat) (wd : Nat → Nat) (ro : Nat → Option Nat) (h : Nat) (Q : Nat → SMK) (n c : Nat) : TL := (csI c (fun k => csI n (fun j => nS TRS wd h Q j k)), fun o => ciI c (fun k => ciI n (fun j => nC TRS wd ro h Q j k o)), fun o => csI c (fun k => csI n (fun j => nO TRS wd ro h Q j k o)), fun o => csI c (fun k => csI n (fun j => nD TRS wd ro h Q j k o)))
theorem tlC_succ (TRS : Nat → Nat → Nat) (wd : Nat → Nat) (ro : Nat → Option Nat) (h : Nat) (Q : Nat → SMK) (n c : Nat) : tlR (TRS c) wd (bM (TRS c)) ro h 0 (Q c) n (tlC TRS wd ro h Q n c) = tlC TRS wd ro h Q n (c + 1) := by
  rw [tlR_0]; rfl
theorem X6_hours_W1 (f : FN) {m n : Nat} {TRS : Nat → Nat → Nat} {ro : Nat → Option Nat} {wd : Nat → Nat} {Q : Nat → SMK} {bo : Nat → Int} {h : Nat} {f0 : FN} (w : TW f0 m TRS ro wd Q bo h) (e0 : ∀ j, ¬ (86 ≤ j ∧ j ≤ 89) → f j = f0 j) (hT : HT f tl0) (hN : h + n ≤ 9999) : ∃ g, W_X6_hours_1 [.ref 0, .int (nI n), .int 0] (memOf f) = some (.inl ([.ref 0, .int (nI n), .int (nI m)], memOf g)) ∧ (∀ x, ¬ (7 ≤ x ∧ x ≤ 38) → ¬ (86 ≤ x ∧ x ≤ 89) → g x = f0 x) ∧ (∀ k, k < m → HC g (chId 1 k) (rn TRS wd h Q n k)) ∧ (∀ k, k < m → HTr g (chId 1 k) (TRS k)) ∧ HT g (tlC TRS wd ro h Q n m) := by
  have hAl := w.A_le
  obtain ⟨⟨b1, b2, b3, b4⟩, ⟨⟨s1, s2⟩, s3, s4, s5⟩, sp, ro', wd', bk', tk, bn⟩ := w
  have hc7 : ∀ k, k < m → 7 ≤ chId 1 k ∧ chId 1 k + 3 ≤ 38 := fun k hk => by unfold chId; omega
  have key := while_rel (b := WB_X6_hours_1) (s := WS_X6_hours_1) (fun c => [.ref 0, .int (nI n), .int (nI c)]) (fun c g => (∀ x, ¬ (7 ≤ x ∧ x ≤ 38) → ¬ (86 ≤ x ∧ x ≤ 89) → g x = f0 x) ∧ (∀ k, k < m → HC g (chId 1 k) (if k < c then rn TRS wd h Q n k else Q k)) ∧ (∀ k, k < m → HTr g (chId 1 k) (TRS k)) ∧ HT g (tlC TRS wd ro h Q n c)) m (by unfold FU; omega) (fun c g hc hI => ?_) (fun c g hc hI => ?_) (fun g hI => ?_) (f := f) ⟨fun x _ h2 => e0 x h2, fun k hk => by
      have := hc7 k hk
      rw [if_neg (by omega)]; exact (sp k hk).2.1.congr (fun j h1 h2 _ => e0 j (by omega)), fun k hk => by
      have := hc7 k hk
      exact (sp k hk).2.2.congr (e0 _ (by omega)), hT⟩
  · obtain ⟨g, W, I1, I2, I3, I4⟩ := key
    refine ⟨g, W, I1, fun k hk => ?_, I3, I4⟩
    have := I2 k hk
    rw [if_pos hk] at this; exact this
  · have e1 : g 1 2 = nI m := by rw [hI.1 1 (by omega) (by omega)]; exact b4
    have e : nI c < nI m := (nI_lt_iff (by omega) (by omega)).mpr hc
    simp [WB_X6_hours_1, m_den, l0, Value.category, s_seq, s_if, s_st, s_ret, s_retz, s_retv, s_skip, s_sc, s_inc, s_call, e_c, e_li, e_lr, e_lj, e_un, e_bin, e_if, e_b, b_not, b_and, b_or, b_of, e_call, a_recv, a_snoc, a_nil, prI, prJ, prR, e_gi, e_gr, e_ai, e_ar, s_as, s_aop, s_pf, s_pfz, s_fop, l_set, l_ok, e_div, e_rem, e_len, s_tab, g_0_0, g_1_2, e1, e]
  · obtain ⟨I1, I2, I3, I4⟩ := hI
    have c8 : c < 8 := by omega
    have hC := isCh_town (b := 1) (Or.inl rfl) c8
    have hcc := hc7 c hc
    have Ic := I2 c hc
    rw [if_neg (by omega)] at Ic
    obtain ⟨g2, P1, P2, P3, P4⟩ := X5_playHours g (n0 := 0) (n := n) (q := Q c) hC (by omega) (by rw [I1 1 (by omega) (by omega)]; exact b1) Ic (I3 c hc) (s3 c hc).2 (ro'.congr (I1 2 (by omega) (by omega))) (wd'.congr (I1 3 (by omega) (by omega))) I4 (hAl c hc) (by omega)
    rw [tlC_succ] at P3
    rw [Nat.zero_add] at P2
    refine ⟨g2, ?_, fun x h1 h2 => by rw [P4 x (by omega) (by omega) (by omega) h2]; exact I1 x h1 h2, fun k hk => ?_, fun k hk => ?_, P3⟩
    · have z : nI 0 = 0 := rfl
      rw [z] at P1
      simp [WS_X6_hours_1, m_den, l0, Value.category, s_seq, s_if, s_st, s_ret, s_retz, s_retv, s_skip, s_sc, s_inc, s_call, e_c, e_li, e_lr, e_lj, e_un, e_bin, e_if, e_b, b_not, b_and, b_or, b_of, e_call, a_recv, a_snoc, a_nil, prI, prJ, prR, e_gi, e_gr, e_ai, e_ar, s_as, s_aop, s_pf, s_pfz, s_fop, l_set, l_ok, e_div, e_rem, e_len, s_tab, g_0_0, g_0_7, g_1_7, rr_6 g c8, rc_1, P1, nI_next]
    · by_cases e : k = c
      · subst e; rw [if_pos (by omega)]; exact P2
      · have h1 : (k < c + 1) = (k < c) := by apply propext; omega
        simp only [h1]
        have hk7 := hc7 k hk
        refine (I2 k hk).congr (fun j h1 h2 h3 => P4 j ?_ ?_ ?_ ?_)
        · unfold chId at *; omega
        · unfold chId at *; omega
        · unfold chId at *; omega
        · omega
    · have hk7 := hc7 k hk
      refine (I3 k hk).congr (P4 _ ?_ ?_ ?_ ?_)
      · unfold chId at *; omega
      · unfold chId at *; omega
      · unfold chId at *; omega
      · omega
  · have e1 : g 1 2 = nI m := by rw [hI.1 1 (by omega) (by omega)]; exact b4
    have e : ¬ nI m < nI m := Int32.lt_irrefl
    simp [WB_X6_hours_1, m_den, l0, Value.category, s_seq, s_if, s_st, s_ret, s_retz, s_retv, s_skip, s_sc, s_inc, s_call, e_c, e_li, e_lr, e_lj, e_un, e_bin, e_if, e_b, b_not, b_and, b_or, b_of, e_call, a_recv, a_snoc, a_nil, prI, prJ, prR, e_gi, e_gr, e_ai, e_ar, s_as, s_aop, s_pf, s_pfz, s_fop, l_set, l_ok, e_div, e_rem, e_len, s_tab, g_0_0, g_1_2, e1, e]
theorem X6_hours_W2 (f : FN) (n : Int32) {t bo : Nat → Int} (h7 : ∀ o, o < 6 → f 87 o = iI (t o)) (h4 : ∀ o, o < 6 → f 4 o = iI (bo o)) : ∃ g, W_X6_hours_2 [.ref 0, .int n, .int 0] (memOf f) = some (.inl ([.ref 0, .int n, .int (nI 6)], memOf g)) ∧ (∀ x, x ≠ 4 → g x = f x) ∧ ∀ o, o < 6 → g 4 o = iI (bo o + t o) := by
  have key := while_rel (b := WB_X6_hours_2) (s := WS_X6_hours_2) (fun c => [.ref 0, .int n, .int (nI c)]) (fun c g => (∀ x, x ≠ 4 → g x = f x) ∧ ∀ o, o < 6 → g 4 o = iI (if o < c then bo o + t o else bo o)) 6 (by unfold FU; omega) (fun c g hc hI => ?_) (fun c g hc hI => ?_) (fun g hI => ?_) (f := f) ⟨fun _ _ => rfl, fun o ho => by rw [if_neg (by omega)]; exact h4 o ho⟩
  · obtain ⟨g, W, I1, I2⟩ := key
    refine ⟨g, W, I1, fun o ho => ?_⟩
    have := I2 o ho
    rw [if_pos ho] at this; exact this
  · have e : nI c < (6 : Int32) := lt_lit (n := 6) hc (by omega)
    simp [WB_X6_hours_2, m_den, l0, Value.category, s_seq, s_if, s_st, s_ret, s_retz, s_retv, s_skip, s_sc, s_inc, s_call, e_c, e_li, e_lr, e_lj, e_un, e_bin, e_if, e_b, b_not, b_and, b_or, b_of, e_call, a_recv, a_snoc, a_nil, prI, prJ, prR, e_gi, e_gr, e_ai, e_ar, s_as, s_aop, s_pf, s_pfz, s_fop, l_set, l_ok, e_div, e_rem, e_len, s_tab, e]
  · obtain ⟨I1, I2⟩ := hI
    have r7 := rd_87 g hc
    rw [I1 87 (by omega), h7 c hc] at r7
    refine ⟨row g 4 (upd (g 4) c (g 4 c + iI (t c))), ?_, fun x hx => by rw [row_ne _ _ hx]; exact I1 x hx, fun o ho => ?_⟩
    · simp [WS_X6_hours_2, m_den, l0, Value.category, s_seq, s_if, s_st, s_ret, s_retz, s_retv, s_skip, s_sc, s_inc, s_call, e_c, e_li, e_lr, e_lj, e_un, e_bin, e_if, e_b, b_not, b_and, b_or, b_of, e_call, a_recv, a_snoc, a_nil, prI, prJ, prR, e_gi, e_gr, e_ai, e_ar, s_as, s_aop, s_pf, s_pfz, s_fop, l_set, l_ok, e_div, e_rem, e_len, s_tab, g_0_0, g_0_7, g_1_5, g_86_1, rd_4 g hc, r7, wr_4 g hc, nI_next]
    · rw [row_self]
      by_cases e : o = c
      · subst e; rw [upd_self, if_pos (by omega), I2 o ho, if_neg (by omega), iI_a]
      · rw [upd_ne _ _ e, I2 o ho]
        by_cases e2 : o < c
        · rw [if_pos e2, if_pos (by omega)]
        · rw [if_neg e2, if_neg (by omega)]
  · have e : ¬ nI 6 < (6 : Int32) := nlt_lit (n := 6) (by omega)
    simp [WB_X6_hours_2, m_den, l0, Value.category, s_seq, s_if, s_st, s_ret, s_retz, s_retv, s_skip, s_sc, s_inc, s_call, e_c, e_li, e_lr, e_lj, e_un, e_bin, e_if, e_b, b_not, b_and, b_or, b_of, e_call, a_recv, a_snoc, a_nil, prI, prJ, prR, e_gi, e_gr, e_ai, e_ar, s_as, s_aop, s_pf, s_pfz, s_fop, l_set, l_ok, e_div, e_rem, e_len, s_tab, e]
theorem X6_hours_no0 (f : FN) {n : Int32} (h : ¬ (1 ≤ n ∧ n ≤ 48)) : D_X6_hours [.ref 0, .int n] (memOf f) = some (.int (-1000001), memOf (row f 81 (upd (f 81) 0 (f 81 0 + 1)))) := by
  by_cases h1 : 1 ≤ n
  · have h2 : ¬ (n ≤ 48) := fun q => h ⟨h1, q⟩
    simp [D_X6_hours, S_X6_hours, m_den, l0, Value.category, s_seq, s_if, s_st, s_ret, s_retz, s_retv, s_skip, s_sc, s_inc, s_call, e_c, e_li, e_lr, e_lj, e_un, e_bin, e_if, e_b, b_not, b_and, b_or, b_of, e_call, a_recv, a_snoc, a_nil, prI, prJ, prR, e_gi, e_gr, e_ai, e_ar, s_as, s_aop, s_pf, s_pfz, s_fop, l_set, l_ok, e_div, e_rem, e_len, s_tab, X6_isIn, rc_0, X6_fin_0, h1, h2]
  · simp [D_X6_hours, S_X6_hours, m_den, l0, Value.category, s_seq, s_if, s_st, s_ret, s_retz, s_retv, s_skip, s_sc, s_inc, s_call, e_c, e_li, e_lr, e_lj, e_un, e_bin, e_if, e_b, b_not, b_and, b_or, b_of, e_call, a_recv, a_snoc, a_nil, prI, prJ, prR, e_gi, e_gr, e_ai, e_ar, s_as, s_aop, s_pf, s_pfz, s_fop, l_set, l_ok, e_div, e_rem, e_len, s_tab, X6_isIn, rc_0, X6_fin_0, h1]
theorem X7_hours_no0 (f : FN) {n : Int32} (h : ¬ (1 ≤ n ∧ n ≤ 48)) : D_X7_hours [.ref 103, .int n] (memOf f) = some (.int (-1000001), memOf (row f 107 (upd (f 107) 0 (f 107 0 + 1)))) := by
  by_cases h1 : 1 ≤ n
  · have h2 : ¬ (n ≤ 48) := fun q => h ⟨h1, q⟩
    simp [D_X7_hours, S_X7_hours, m_den, l0, Value.category, s_seq, s_if, s_st, s_ret, s_retz, s_retv, s_skip, s_sc, s_inc, s_call, e_c, e_li, e_lr, e_lj, e_un, e_bin, e_if, e_b, b_not, b_and, b_or, b_of, e_call, a_recv, a_snoc, a_nil, prI, prJ, prR, e_gi, e_gr, e_ai, e_ar, s_as, s_aop, s_pf, s_pfz, s_fop, l_set, l_ok, e_div, e_rem, e_len, s_tab, X7_in, j_le_48, j_ge_1, rc_103, X7_fin_0, h1, h2]
  · simp [D_X7_hours, S_X7_hours, m_den, l0, Value.category, s_seq, s_if, s_st, s_ret, s_retz, s_retv, s_skip, s_sc, s_inc, s_call, e_c, e_li, e_lr, e_lj, e_un, e_bin, e_if, e_b, b_not, b_and, b_or, b_of, e_call, a_recv, a_snoc, a_nil, prI, prJ, prR, e_gi, e_gr, e_ai, e_ar, s_as, s_aop, s_pf, s_pfz, s_fop, l_set, l_ok, e_div, e_rem, e_len, s_tab, X7_in, j_le_48, j_ge_1, rc_103, X7_fin_0, h1]
theorem hor {h n : Nat} (hh : h ≤ 9999) (hn : n ≤ 9999) : (nI h + nI n ≤ 9999) = (h + n ≤ 9999) := by
  rw [nI_a]; exact propext (nI_le_iff (a := h + n) (b := 9999) (by omega) (by omega))
theorem bnd_add {x y : Int} {a b : Nat} (h1 : bnd x a) (h2 : bnd y b) : bnd (x + y) (a + b) := by
  unfold bnd at *; omega
theorem agr_hours {f : FN} (h : REL f) (x : Int32) : AGR D_X6_hours D_X7_hours [.int x] f := by
  obtain ⟨⟨m, hT, hV⟩, -⟩ := id h
  obtain ⟨TRS, ro, wd, Q, bo, hh, w⟩ := TW.ex hT hV
  by_cases hc : 1 ≤ x ∧ x ≤ 48
  · obtain ⟨a1, a2⟩ := hc
    obtain ⟨n, hn, rfl⟩ := in_ex (n := 48) ⟨Int32.le_trans (by decide) a1, a2⟩ (by omega)
    have hAl := w.A_le
    obtain ⟨⟨b1, b2, b3, b4⟩, hS, sp, ro', wd', bk', tk, bn⟩ := id w
    have m8 := hS.1.2
    have hq := hor (h := hh) (n := n) b3 (by omega)
    by_cases hN : hh + n ≤ 9999
    · obtain ⟨f1, T1, T2, T3⟩ := X3_begin f
      obtain ⟨f2, A1, A2, A3, A4, A5⟩ := X6_hours_W1 f1 w T3 T2 hN
      obtain ⟨f3, B1, B2, B3⟩ := X6_hours_W2 f2 (nI n) (t := (tlC TRS wd ro hh Q n m).2.1) (bo := bo) A5.2.1 (fun o ho => by rw [A2 4 (by omega) (by omega)]; exact (bk' o ho).1)
      obtain ⟨g1, hg1⟩ : ∃ g1, g1 = row f3 1 (upd (f3 1) 0 (f3 1 0 + nI n)) := ⟨_, rfl⟩
      have e1 : ∀ x, x ≠ 1 → x ≠ 4 → ¬ (7 ≤ x ∧ x ≤ 38) → ¬ (86 ≤ x ∧ x ≤ 89) → g1 x = f x := fun x c1 c2 c3 c4 => by rw [hg1, row_ne _ _ c1, B2 x c2, A2 x c3 c4]
      have f31 : f3 1 = f 1 := by rw [B2 1 (by omega), A2 1 (by omega) (by omega)]
      have e104 := e1 104 (by omega) (by omega) (by omega) (by omega)
      obtain ⟨f', g2, H1, H2, H3, H4⟩ := X7_hoursGo g1 (n := n) (TRS := TRS) (ro := ro) (wd := wd) (Q := Q) (h := hh) (by rw [e104]; exact hS) (by rw [e104]; exact b2) (fun k hk => by rw [e104]; exact (sp k hk).1) hAl hN
      obtain ⟨P1, P2, P3, P4, P5, P6, P7, P8⟩ := H4
      have E : ∀ x, x ≠ 103 → x ≠ 104 → x ≠ 108 → x ≠ 109 → g2 x = g1 x := fun x c1 c2 c3 c4 => by rw [P1 x c1 c2 c3 c4, H2 x c4]
      have e4' : f' 104 = f 104 := by rw [H2 104 (by omega), e104]
      have e3' : f' 103 = f 103 := by rw [H2 103 (by omega), e1 103 (by omega) (by omega) (by omega) (by omega)]
      have r1 := hq ▸ hN
      refine ⟨nI (csI m (fun k => csI n (fun j => nS TRS wd hh Q j k))), g1, g2, ?_, ?_, ?_⟩
      · have t0 : f3 86 0 = nI (csI m (fun k => csI n (fun j => nS TRS wd hh Q j k))) := by rw [B2 86 (by omega)]; exact A5.1
        have g0 : g1 86 0 = nI (csI m (fun k => csI n (fun j => nS TRS wd hh Q j k))) := by rw [hg1, row_ne _ _ (by omega)]; exact t0
        have w1 := p_1_0 f3 (f3 1 0 + nI n)
        rw [← hg1] at w1
        simp [D_X6_hours, S_X6_hours, m_den, l0, Value.category, s_seq, s_if, s_st, s_ret, s_retz, s_retv, s_skip, s_sc, s_inc, s_call, e_c, e_li, e_lr, e_lj, e_un, e_bin, e_if, e_b, b_not, b_and, b_or, b_of, e_call, a_recv, a_snoc, a_nil, prI, prJ, prR, e_gi, e_gr, e_ai, e_ar, s_as, s_aop, s_pf, s_pfz, s_fop, l_set, l_ok, e_div, e_rem, e_len, s_tab, X6_isIn, a1, a2, rc_0, X6_hasHours, b1, hq, hN, g_0_7, rc_86, T1, A1, B1, g_0_0, g_1_0, w1, g_86_0, g0]
      · have b2' : g1 104 0 = nI hh := by rw [e104]; exact b2
        rw [csI_swap n m] at H1
        simp [D_X7_hours, S_X7_hours, m_den, l0, Value.category, s_seq, s_if, s_st, s_ret, s_retz, s_retv, s_skip, s_sc, s_inc, s_call, e_c, e_li, e_lr, e_lj, e_un, e_bin, e_if, e_b, b_not, b_and, b_or, b_of, e_call, a_recv, a_snoc, a_nil, prI, prJ, prR, e_gi, e_gr, e_ai, e_ar, s_as, s_aop, s_pf, s_pfz, s_fop, l_set, l_ok, e_div, e_rem, e_len, s_tab, X7_in, j_le_48, j_ge_1, a1, a2, rc_103, X7_isTooFar, b2', hq, hN, H1]
      · have hb2 : ∀ c, c < 24 → ∀ k, k < m → bM (TRS k) c ≤ 203 := fun c _ k hk => bM_le (hS.2.1 k hk).2 c
        have hwd : WD wd := fun c hc => (hS.2.2.2 c hc).2
        have k2 : ∀ k, k < m → TRS k 2 < 36 := fun k hk => by have := (hS.2.1 k hk).2 2 (by omega); simp only [lim] at this; omega
        have hc7 : ∀ k, k < m → 7 ≤ chId 1 k ∧ chId 1 k + 3 ≤ 38 := fun k hk => by unfold chId; omega
        refine h.tw (m := m) (TRS := TRS) (ro := ro) (wd := wd) (Q := rn TRS wd hh Q n) (bo := fun o => bo o + ciI n (fun i => ciI m (fun k => nC TRS wd ro hh Q i k o))) (h' := hh + n) hT hV ⟨⟨?_, P4, hN, ?_⟩, ?_, fun k hk => ⟨P5 k hk, ?_, ?_⟩, ?_, ?_, fun o ho => ⟨?_, ?_⟩, fun k hk => ⟨?_, ?_⟩, fun o ho => ?_⟩ (fun j hj => ?_) ⟨?_, ?_⟩ ⟨?_, ?_⟩ (fun s hs => ?_) (fun k hk1 hk2 y hy => ?_)
        · rw [E 1 (by omega) (by omega) (by omega) (by omega), hg1, row_self, upd_self, f31, b1, nI_a]
        · rw [E 1 (by omega) (by omega) (by omega) (by omega), hg1, row_self, upd_ne _ _ (by omega), f31]; exact b4
        · exact hS.sig (fun y h1 h2 => by rw [P3 y (by omega) (by omega) (fun k hk => by unfold inCh; omega), e4'])
        · have := hc7 k hk
          exact (A3 k hk).congr (fun j h1 h2 _ => by rw [E j (by omega) (by omega) (by omega) (by omega), hg1, row_ne _ _ (by omega), B2 j (by omega)])
        · have := hc7 k hk
          exact (A4 k hk).congr (by rw [E _ (by omega) (by omega) (by omega) (by omega), hg1, row_ne _ _ (by omega), B2 _ (by omega)])
        · exact ro'.congr (by rw [E 2 (by omega) (by omega) (by omega) (by omega)]; exact e1 2 (by omega) (by omega) (by omega) (by omega))
        · exact wd'.congr (by rw [E 3 (by omega) (by omega) (by omega) (by omega)]; exact e1 3 (by omega) (by omega) (by omega) (by omega))
        · rw [E 4 (by omega) (by omega) (by omega) (by omega), hg1, row_ne _ _ (by omega), B3 o ho]
          show iI (bo o + ciI m (fun k => ciI n (fun j => nC TRS wd ro hh Q j k o))) = iI (bo o + ciI n (fun i => ciI m (fun k => nC TRS wd ro hh Q i k o)))
          rw [ciI_swap n m]
        · exact P6 bo (fun o ho => by rw [e4']; exact (bk' o ho).2) o ho
        · exact run_tot hwd (k2 k hk) (tk k hk).1 n
        · have := run_B (tr := TRS k) (wd := wd) (h := hh) (fun c hc => hb2 c hc k hk) (tk k hk).2 n
          unfold rn; omega
        · have e : csI m (fun k => csI 36 (rn TRS wd hh Q n k).2.1) = csI m (fun k => csI 36 (Q k).2.1) + csI m (fun k => csI n (fun j => nS TRS wd hh Q j k)) := by
            rw [← csI_addf]
            exact csI_congr (fun k _ => run_S n)
          rw [e]
          refine bnd_add (bn o ho) ?_
          rw [ciI_swap n m]
          exact ciI_bnd (fun k _ => ciI_bnd (fun j _ => dC_bnd _ _ _ _ _ _ _ _))
        · rw [E j (by omega) (by omega) (by omega) (by omega)]; exact e1 j (by omega) (by omega) (by omega) (by omega)
        · rw [P2 4 (by omega), e3']
        · rw [P2 12 (by omega), e3']
        · rw [E 1 (by omega) (by omega) (by omega) (by omega), hg1, row_self, upd_ne _ _ (by omega), f31]
        · rw [P3 2 (by omega) (by omega) (fun k hk => by unfold inCh; omega), e4']
        · rw [P3 _ (by omega) (by omega) (fun k hk => by unfold inCh; omega), e4']
        · rw [P3 y (by unfold inCh at hy; omega) (by unfold inCh at hy; omega) (fun k' hk' => inCh_dis hk2 (by omega) (by omega) hy), e4']
    · refine agr_find (j := 4) (v := -1000005) h ?_ (fun g hg => ?_)
      · simp [D_X6_hours, S_X6_hours, m_den, l0, Value.category, s_seq, s_if, s_st, s_ret, s_retz, s_retv, s_skip, s_sc, s_inc, s_call, e_c, e_li, e_lr, e_lj, e_un, e_bin, e_if, e_b, b_not, b_and, b_or, b_of, e_call, a_recv, a_snoc, a_nil, prI, prJ, prR, e_gi, e_gr, e_ai, e_ar, s_as, s_aop, s_pf, s_pfz, s_fop, l_set, l_ok, e_div, e_rem, e_len, s_tab, X6_isIn, a1, a2, rc_0, X6_hasHours, b1, hq, hN, X6_fin_4]
      · have b2' : g 104 0 = nI hh := by rw [hg.1]; exact b2
        simp [D_X7_hours, S_X7_hours, m_den, l0, Value.category, s_seq, s_if, s_st, s_ret, s_retz, s_retv, s_skip, s_sc, s_inc, s_call, e_c, e_li, e_lr, e_lj, e_un, e_bin, e_if, e_b, b_not, b_and, b_or, b_of, e_call, a_recv, a_snoc, a_nil, prI, prJ, prR, e_gi, e_gr, e_ai, e_ar, s_as, s_aop, s_pf, s_pfz, s_fop, l_set, l_ok, e_div, e_rem, e_len, s_tab, X7_in, j_le_48, j_ge_1, a1, a2, rc_103, X7_isTooFar, b2', hq, hN, X7_fin_4]
  · exact agr_find h (X6_hours_no0 f hc) (fun g _ => X7_hours_no0 g hc)
