/-! the reference: hours go -/
def HSt (σ : Nat → Int32) (m : Nat) (TRS : Nat → Nat → Nat) (ro : Nat → Option Nat) (wd : Nat → Nat) : Prop := (σ 1 = nI m ∧ m ≤ 8) ∧ (∀ k, k < m → HRt σ k (TRS k) ∧ TB (TRS k)) ∧ HRoR σ ro ∧ HWiR σ wd
theorem HSt.sig {σ τ : Nat → Int32} {m : Nat} {TRS : Nat → Nat → Nat} {ro : Nat → Option Nat} {wd : Nat → Nat} (h : HSt σ m TRS ro wd) (e : ∀ y, 1 ≤ y → y < 119 → τ y = σ y) : HSt τ m TRS ro wd := by
  obtain ⟨⟨a1, a2⟩, b, c, d⟩ := h
  refine ⟨⟨by rw [e 1 (by omega) (by omega)]; exact a1, a2⟩, fun k hk => ⟨fun j hj => ?_, (b k hk).2⟩, fun x hx => ?_, fun x hx => ?_⟩
  · rw [e _ (by omega) (by omega)]; exact (b k hk).1 j hj
  · rw [e _ (by omega) (by omega)]; exact c x hx
  · rw [e _ (by omega) (by omega)]; exact d x hx
def rn (TRS : Nat → Nat → Nat) (wd : Nat → Nat) (h : Nat) (Q : Nat → SMK) (j k : Nat) : SMK := run (TRS k) wd (bM (TRS k)) h j (Q k)
def nS (TRS : Nat → Nat → Nat) (wd : Nat → Nat) (h : Nat) (Q : Nat → SMK) (j k : Nat) : Nat := dS (TRS k) wd (bM (TRS k)) h j (Q k)
def nC (TRS : Nat → Nat → Nat) (wd : Nat → Nat) (ro : Nat → Option Nat) (h : Nat) (Q : Nat → SMK) (j k o : Nat) : Int := dC (TRS k) wd (bM (TRS k)) ro h j (Q k) o
def nD (TRS : Nat → Nat → Nat) (wd : Nat → Nat) (ro : Nat → Option Nat) (h : Nat) (Q : Nat → SMK) (j k o : Nat) : Nat := dD (TRS k) wd (bM (TRS k)) ro h j (Q k) o
def nH (TRS : Nat → Nat → Nat) (wd : Nat → Nat) (ro : Nat → Option Nat) (h : Nat) (Q : Nat → SMK) (a b : Int32) (j k : Nat) : Bool := orB 36 (fun c => hitB k (ptR (TRS k) wd (bM (TRS k)) h j (Q k) c) (ro c) a b)
def PL (f : FN) (m : Nat) (TRS : Nat → Nat → Nat) (ro : Nat → Option Nat) (wd : Nat → Nat) (h : Nat) (Q : Nat → SMK) (j : Nat) (g : FN) : Prop := (∀ x, x ≠ 103 → x ≠ 104 → x ≠ 108 → x ≠ 109 → g x = f x) ∧ (∀ y, y ≠ 9 → g 103 y = f 103 y) ∧ (∀ y, y ≠ 0 → ¬ (119 ≤ y ∧ y < 125) → (∀ k, k < m → ¬ inCh k y) → g 104 y = f 104 y) ∧ g 104 0 = nI (h + j) ∧ (∀ k, k < m → HR (g 104) k (rn TRS wd h Q j k)) ∧ (∀ bo : Nat → Int, (∀ o, o < 6 → f 104 (119 + o) = iI (bo o)) → ∀ o, o < 6 → g 104 (119 + o) = iI (bo o + ciI j (fun i => ciI m (fun k => nC TRS wd ro h Q i k o)))) ∧ (∀ di : Nat → Nat, (∀ o, o < 6 → f 109 o = nI (di o)) → ∀ o, o < 6 → g 109 o = nI (di o + csI j (fun i => csI m (fun k => nD TRS wd ro h Q i k o)))) ∧ ∀ rb, f 103 9 = b2i rb → g 103 9 = b2i (rb || orB j (fun i => orB m (fun k => nH TRS wd ro h Q (f 103 7) (f 103 8) i k)))
theorem PL.zero {f : FN} {m : Nat} {TRS : Nat → Nat → Nat} {ro : Nat → Option Nat} {wd : Nat → Nat} {h : Nat} {Q : Nat → SMK} (hh : f 104 0 = nI h) (hR : ∀ k, k < m → HR (f 104) k (Q k)) : PL f m TRS ro wd h Q 0 f :=
  ⟨fun _ _ _ _ _ => rfl, fun _ _ => rfl, fun _ _ _ _ => rfl, hh, hR, fun bo e o ho => by rw [e o ho]; simp [ciI], fun di e o ho => by rw [e o ho]; simp [csI], fun rb e => by rw [e]; simp [orB]⟩
theorem PL.st {f g : FN} {m : Nat} {TRS : Nat → Nat → Nat} {ro : Nat → Option Nat} {wd : Nat → Nat} {h j : Nat} {Q : Nat → SMK} (hS : HSt (f 104) m TRS ro wd) (hP : PL f m TRS ro wd h Q j g) : HSt (g 104) m TRS ro wd :=
  hS.sig (fun y h1 h2 => hP.2.2.1 y (by omega) (by omega) (fun k hk => by unfold inCh; omega))
theorem X7_hour (f g : FN) {m : Nat} {TRS : Nat → Nat → Nat} {ro : Nat → Option Nat} {wd : Nat → Nat} {h j : Nat} {Q : Nat → SMK} (hS : HSt (f 104) m TRS ro wd) (hP : PL f m TRS ro wd h Q j g) (hA : ∀ k, k < m → ∀ c, c < 36 → (Q k).1 c ≤ 203 * h) (hN : h + j < 9999) : ∃ g', D_X7_hour [.ref 103] (memOf g) = some (.int (nI (csI m (fun k => nS TRS wd h Q j k))), memOf g') ∧ PL f m TRS ro wd h Q (j + 1) g' := by
  have hS' := hP.st hS
  obtain ⟨P1, P2, P3, P4, P5, P6, P7, P8⟩ := hP
  obtain ⟨⟨em, hm⟩, hT, hRo, hW⟩ := hS'
  have hcl : (h + j) % 24 < 24 := Nat.mod_lt _ (by omega)
  have hwd : WD wd := fun c hc => (hW c hc).2
  have hbb : ∀ k, k < m → ∀ c, c < 24 → bM (TRS k) c ≤ 203 := fun k hk c _ => bM_le (hT k hk).2 c
  have hAr : ∀ k, k < m → ∀ c, c < 36 → (rn TRS wd h Q j k).1 c ≤ 2100000 := fun k hk c hc => by
    have := run_le (tr := TRS k) (h := h) hwd (hbb k hk) (hA k hk) j c hc
    unfold rn
    omega
  obtain ⟨g1, A1, A2, A3, A4⟩ := X7_hour_W1 g hm hcl em hT P5
  have s1 : HSt (g1 104) m TRS ro wd := HSt.sig ⟨⟨em, hm⟩, hT, hRo, hW⟩ (fun y h1 h2 => A3 y (fun k hk => by unfold inCh; omega))
  obtain ⟨⟨em1, -⟩, hT1, hRo1, hW1⟩ := s1
  obtain ⟨g2, B1, B2, B3, B4⟩ := X7_hour_W2 g1 hm hcl (hW _ hcl).2 em1 (hW1 _ hcl).1 A4
  have s2 : HSt (g2 104) m TRS ro wd := HSt.sig ⟨⟨em1, hm⟩, hT1, hRo1, hW1⟩ (fun y h1 h2 => B3 y (fun k hk => by unfold inCh; omega))
  obtain ⟨⟨em2, -⟩, hT2, hRo2, hW2⟩ := s2
  obtain ⟨g3, C1, C2, C3, C4, C5, C6, C7, C8⟩ := X7_hour_W3 g2 (cl := nI ((h + j) % 24)) hm em2 hT2 hRo2 B4 (fun k hk c hc => by
    have := smWind_le (hW _ hcl).2 (smBurn_le (ce := TRS k 2) (b := bM (TRS k) ((h + j) % 24)) (hAr k hk)) c hc
    have := bM_le (hT k hk).2 ((h + j) % 24)
    omega)
  have e0 : g3 104 0 = nI (h + j) := by
    rw [C5 0 (by omega) (fun k hk => by unfold inCh; omega), B3 0 (fun k hk => by unfold inCh; omega), A3 0 (fun k hk => by unfold inCh; omega)]; exact P4
  have x103 : g2 103 = g 103 := by rw [B2 103 (by omega) (by omega), A2 103 (by omega)]
  have x109 : g2 109 = g 109 := by rw [B2 109 (by omega) (by omega), A2 109 (by omega)]
  have xbo : ∀ o, o < 6 → g2 104 (119 + o) = g 104 (119 + o) := fun o ho => by rw [B3 _ (fun k hk => by unfold inCh; omega), A3 _ (fun k hk => by unfold inCh; omega)]
  refine ⟨row g3 104 (upd (g3 104) 0 (g3 104 0 + 1)), ?_, fun x h1 h2 h3 h4 => ?_, fun y hy => ?_, fun y h1 h2 h3 => ?_, ?_, fun k hk => ?_, fun bo hb o ho => ?_, fun di hd o ho => ?_, fun rb hr => ?_⟩
  · have r : nI (h + j) - nI (h + j) / 24 * 24 = nI ((h + j) % 24) := rem24 (by omega)
    have w0 : gm_wr (memOf g3) 104 0 (g3 104 0 + 1) = some (memOf (row g3 104 (upd (g3 104) 0 (g3 104 0 + 1)))) := wr_104 g3 (k := 0) (by omega) _
    simp [D_X7_hour, S_X7_hour, m_den, l0, Value.category, s_seq, s_if, s_st, s_ret, s_retz, s_retv, s_skip, s_sc, s_inc, s_call, e_c, e_li, e_lr, e_lj, e_un, e_bin, e_if, e_b, b_not, b_and, b_or, b_of, e_call, a_recv, a_snoc, a_nil, prI, prJ, prR, e_gi, e_gr, e_ai, e_ar, s_as, s_aop, s_pf, s_pfz, s_fop, l_set, l_ok, e_div, e_rem, e_len, s_tab, g_103_0, rd_104_0, P4, r, A1, B1, C1, w0]
    rfl
  · rw [row_ne _ _ h2, C2 x h1 h2 h4, B2 x h2 h3, A2 x h2]; exact P1 x h1 h2 h3 h4
  · rw [row_ne _ _ (by omega), C3 y hy, x103]; exact P2 y hy
  · rw [row_self, upd_ne _ _ h1, C5 y h2 h3, B3 y h3, A3 y h3]; exact P3 y h1 h2 h3
  · rw [row_self, upd_self, e0, nI_next]; rfl
  · refine (C6 k hk).sig (fun y hy => ?_)
    rw [row_self, upd_ne _ _ (by unfold inCh at hy; omega)]
  · rw [row_self, upd_ne _ _ (by omega), C7 _ (fun o ho => by rw [xbo o ho]; exact P6 bo hb o ho) o ho, Int.add_assoc]; rfl
  · rw [row_ne _ _ (by omega), C8 _ (fun o ho => by rw [x109]; exact P7 di hd o ho) o ho, Nat.add_assoc]; rfl
  · have := C4 _ (by rw [x103]; exact P8 rb hr)
    rw [x103, P2 7 (by omega), P2 8 (by omega)] at this
    rw [row_ne _ _ (by omega), this, Bool.or_assoc]; rfl
theorem X7_hoursGo (f : FN) {m n : Nat} {TRS : Nat → Nat → Nat} {ro : Nat → Option Nat} {wd : Nat → Nat} {h : Nat} {Q : Nat → SMK} (hS : HSt (f 104) m TRS ro wd) (hh : f 104 0 = nI h) (hR : ∀ k, k < m → HR (f 104) k (Q k)) (hA : ∀ k, k < m → ∀ c, c < 36 → (Q k).1 c ≤ 203 * h) (hN : h + n ≤ 9999) : ∃ f' g, D_X7_hoursGo [.ref 103, .int (nI n)] (memOf f) = some (.int (nI (csI n (fun i => csI m (fun k => nS TRS wd h Q i k)))), memOf g) ∧ (∀ x, x ≠ 109 → f' x = f x) ∧ (∀ o, o < 6 → f' 109 o = nI 0) ∧ PL f' m TRS ro wd h Q n g := by
  have key1 := while_rel (b := WB_X7_hoursGo_1) (s := WS_X7_hoursGo_1) (fun j => [.ref 103, .int (nI n), .int (nI j)]) (fun j g => (∀ x, x ≠ 109 → g x = f x) ∧ ∀ c, c < j → g 109 c = nI 0) 6 (by unfold FU; omega) (fun j g hj hI => ?_) (fun j g hj hI => ?_) (fun g hI => ?_) (f := f) ⟨fun _ _ => rfl, fun c hc => absurd hc (by omega)⟩
  · obtain ⟨f', W1, F1, F2⟩ := key1
    have e4 := F1 104 (by omega)
    have hS' : HSt (f' 104) m TRS ro wd := by rw [e4]; exact hS
    have key2 := while_rel (b := WB_X7_hoursGo_2) (s := WS_X7_hoursGo_2) (fun j => [.ref 103, .int (nI n), .int (nI (csI j (fun i => csI m (fun k => nS TRS wd h Q i k)))), .int (nI j)]) (fun j g => PL f' m TRS ro wd h Q j g) n (by unfold FU; omega) (fun j g hj hI => ?_) (fun j g hj hI => ?_) (fun g hI => ?_) (f := f') (PL.zero (by rw [e4]; exact hh) (fun k hk => by rw [e4]; exact hR k hk))
    · obtain ⟨g, W2, hP⟩ := key2
      refine ⟨f', g, ?_, F1, F2, hP⟩
      have W1' : W_X7_hoursGo_1 [.ref 103, .int (nI n), .int 0] (memOf f) = some (.inl ([.ref 103, .int (nI n), .int (nI 6)], memOf f')) := W1
      have W2' : W_X7_hoursGo_2 [.ref 103, .int (nI n), .int 0, .int 0] (memOf f') = some (.inl ([.ref 103, .int (nI n), .int (nI (csI n (fun i => csI m (fun k => nS TRS wd h Q i k)))), .int (nI n)], memOf g)) := W2
      simp [D_X7_hoursGo, S_X7_hoursGo, m_den, l0, Value.category, s_seq, s_if, s_st, s_ret, s_retz, s_retv, s_skip, s_sc, s_inc, s_call, e_c, e_li, e_lr, e_lj, e_un, e_bin, e_if, e_b, b_not, b_and, b_or, b_of, e_call, a_recv, a_snoc, a_nil, prI, prJ, prR, e_gi, e_gr, e_ai, e_ar, s_as, s_aop, s_pf, s_pfz, s_fop, l_set, l_ok, e_div, e_rem, e_len, s_tab, W1', W2']
    · have e : nI j < nI n := (nI_lt_iff (by omega) (by omega)).mpr hj
      simp [WB_X7_hoursGo_2, m_den, l0, Value.category, s_seq, s_if, s_st, s_ret, s_retz, s_retv, s_skip, s_sc, s_inc, s_call, e_c, e_li, e_lr, e_lj, e_un, e_bin, e_if, e_b, b_not, b_and, b_or, b_of, e_call, a_recv, a_snoc, a_nil, prI, prJ, prR, e_gi, e_gr, e_ai, e_ar, s_as, s_aop, s_pf, s_pfz, s_fop, l_set, l_ok, e_div, e_rem, e_len, s_tab, e]
    · obtain ⟨g', H1, H2⟩ := X7_hour f' g hS' hI hA (by omega)
      refine ⟨g', ?_, H2⟩
      simp [WS_X7_hoursGo_2, m_den, l0, Value.category, s_seq, s_if, s_st, s_ret, s_retz, s_retv, s_skip, s_sc, s_inc, s_call, e_c, e_li, e_lr, e_lj, e_un, e_bin, e_if, e_b, b_not, b_and, b_or, b_of, e_call, a_recv, a_snoc, a_nil, prI, prJ, prR, e_gi, e_gr, e_ai, e_ar, s_as, s_aop, s_pf, s_pfz, s_fop, l_set, l_ok, e_div, e_rem, e_len, s_tab, rc_103, H1, nI_a, nI_next, csI_succ]
    · have e : ¬ nI n < nI n := Int32.lt_irrefl
      simp [WB_X7_hoursGo_2, m_den, l0, Value.category, s_seq, s_if, s_st, s_ret, s_retz, s_retv, s_skip, s_sc, s_inc, s_call, e_c, e_li, e_lr, e_lj, e_un, e_bin, e_if, e_b, b_not, b_and, b_or, b_of, e_call, a_recv, a_snoc, a_nil, prI, prJ, prR, e_gi, e_gr, e_ai, e_ar, s_as, s_aop, s_pf, s_pfz, s_fop, l_set, l_ok, e_div, e_rem, e_len, s_tab, e]
  · have e : nI j < (6 : Int32) := lt_lit (n := 6) hj (by omega)
    simp [WB_X7_hoursGo_1, m_den, l0, Value.category, s_seq, s_if, s_st, s_ret, s_retz, s_retv, s_skip, s_sc, s_inc, s_call, e_c, e_li, e_lr, e_lj, e_un, e_bin, e_if, e_b, b_not, b_and, b_or, b_of, e_call, a_recv, a_snoc, a_nil, prI, prJ, prR, e_gi, e_gr, e_ai, e_ar, s_as, s_aop, s_pf, s_pfz, s_fop, l_set, l_ok, e_div, e_rem, e_len, s_tab, e]
  · refine ⟨row g 109 (upd (g 109) j 0), ?_, fun x hx => by rw [row_ne _ _ hx]; exact hI.1 x hx, fun c hc => ?_⟩
    · simp [WS_X7_hoursGo_1, m_den, l0, Value.category, s_seq, s_if, s_st, s_ret, s_retz, s_retv, s_skip, s_sc, s_inc, s_call, e_c, e_li, e_lr, e_lj, e_un, e_bin, e_if, e_b, b_not, b_and, b_or, b_of, e_call, a_recv, a_snoc, a_nil, prI, prJ, prR, e_gi, e_gr, e_ai, e_ar, s_as, s_aop, s_pf, s_pfz, s_fop, l_set, l_ok, e_div, e_rem, e_len, s_tab, g_103_6, wr_109 g hj, nI_next]
    · rw [row_self]; unfold upd
      by_cases e : c = j
      · rw [if_pos e]; rfl
      · rw [if_neg e]; exact hI.2 c (by omega)
  · have e : ¬ nI 6 < (6 : Int32) := nlt_lit (n := 6) (by omega)
    simp [WB_X7_hoursGo_1, m_den, l0, Value.category, s_seq, s_if, s_st, s_ret, s_retz, s_retv, s_skip, s_sc, s_inc, s_call, e_c, e_li, e_lr, e_lj, e_un, e_bin, e_if, e_b, b_not, b_and, b_or, b_of, e_call, a_recv, a_snoc, a_nil, prI, prJ, prR, e_gi, e_gr, e_ai, e_ar, s_as, s_aop, s_pf, s_pfz, s_fop, l_set, l_ok, e_div, e_rem, e_len, s_tab, e]
theorem X7_puts (f : FN) : ∃ g, D_X7_puts [.ref 103] (memOf f) = some (.null, memOf g) ∧ (∀ x, x ≠ 106 → g x = f x) ∧ ∀ y, y < 735 → g 106 y = f 104 y := by
  have key := while_rel (b := WB_X7_puts_1) (s := WS_X7_puts_1) (fun j => [.ref 103, .int (nI j)]) (fun j g => (∀ x, x ≠ 106 → g x = f x) ∧ ∀ c, c < j → g 106 c = f 104 c) 735 (by unfold FU; omega) (fun j g hj hI => ?_) (fun j g hj hI => ?_) (fun g hI => ?_) (f := f) ⟨fun _ _ => rfl, fun c hc => absurd hc (by omega)⟩
  · obtain ⟨g, W, I1, I2⟩ := key
    refine ⟨g, ?_, I1, I2⟩
    have W' : W_X7_puts_1 [.ref 103, .int 0] (memOf f) = some (.inl ([.ref 103, .int (nI 735)], memOf g)) := W
    simp [D_X7_puts, S_X7_puts, m_den, l0, Value.category, s_seq, s_if, s_st, s_ret, s_retz, s_retv, s_skip, s_sc, s_inc, s_call, e_c, e_li, e_lr, e_lj, e_un, e_bin, e_if, e_b, b_not, b_and, b_or, b_of, e_call, a_recv, a_snoc, a_nil, prI, prJ, prR, e_gi, e_gr, e_ai, e_ar, s_as, s_aop, s_pf, s_pfz, s_fop, l_set, l_ok, e_div, e_rem, e_len, s_tab, W']
  · have e : nI j < (735 : Int32) := lt_lit (n := 735) hj (by omega)
    simp [WB_X7_puts_1, m_den, l0, Value.category, s_seq, s_if, s_st, s_ret, s_retz, s_retv, s_skip, s_sc, s_inc, s_call, e_c, e_li, e_lr, e_lj, e_un, e_bin, e_if, e_b, b_not, b_and, b_or, b_of, e_call, a_recv, a_snoc, a_nil, prI, prJ, prR, e_gi, e_gr, e_ai, e_ar, s_as, s_aop, s_pf, s_pfz, s_fop, l_set, l_ok, e_div, e_rem, e_len, s_tab, e]
  · refine ⟨row g 106 (upd (g 106) j (g 104 j)), ?_, fun x hx => by rw [row_ne _ _ hx]; exact hI.1 x hx, fun c hc => ?_⟩
    · simp [WS_X7_puts_1, m_den, l0, Value.category, s_seq, s_if, s_st, s_ret, s_retz, s_retv, s_skip, s_sc, s_inc, s_call, e_c, e_li, e_lr, e_lj, e_un, e_bin, e_if, e_b, b_not, b_and, b_or, b_of, e_call, a_recv, a_snoc, a_nil, prI, prJ, prR, e_gi, e_gr, e_ai, e_ar, s_as, s_aop, s_pf, s_pfz, s_fop, l_set, l_ok, e_div, e_rem, e_len, s_tab, g_103_0, g_103_2, rd_104 g hj, wr_106 g hj, nI_next]
    · rw [row_self]; unfold upd
      by_cases e : c = j
      · rw [if_pos e, e, hI.1 104 (by omega)]
      · rw [if_neg e]; exact hI.2 c (by omega)
  · have e : ¬ nI 735 < (735 : Int32) := nlt_lit (n := 735) (by omega)
    simp [WB_X7_puts_1, m_den, l0, Value.category, s_seq, s_if, s_st, s_ret, s_retz, s_retv, s_skip, s_sc, s_inc, s_call, e_c, e_li, e_lr, e_lj, e_un, e_bin, e_if, e_b, b_not, b_and, b_or, b_of, e_call, a_recv, a_snoc, a_nil, prI, prJ, prR, e_gi, e_gr, e_ai, e_ar, s_as, s_aop, s_pf, s_pfz, s_fop, l_set, l_ok, e_div, e_rem, e_len, s_tab, e]
theorem X7_putsBack (f : FN) : ∃ g, D_X7_putsBack [.ref 103] (memOf f) = some (.null, memOf g) ∧ (∀ x, x ≠ 104 → g x = f x) ∧ (∀ y, y < 735 → g 104 y = f 106 y) ∧ ∀ y, 735 ≤ y → g 104 y = f 104 y := by
  have key := while_rel (b := WB_X7_putsBack_1) (s := WS_X7_putsBack_1) (fun j => [.ref 103, .int (nI j)]) (fun j g => (∀ x, x ≠ 104 → g x = f x) ∧ (∀ c, c < j → g 104 c = f 106 c) ∧ ∀ y, 735 ≤ y → g 104 y = f 104 y) 735 (by unfold FU; omega) (fun j g hj hI => ?_) (fun j g hj hI => ?_) (fun g hI => ?_) (f := f) ⟨fun _ _ => rfl, fun c hc => absurd hc (by omega), fun _ _ => rfl⟩
  · obtain ⟨g, W, I1, I2⟩ := key
    refine ⟨g, ?_, I1, I2⟩
    have W' : W_X7_putsBack_1 [.ref 103, .int 0] (memOf f) = some (.inl ([.ref 103, .int (nI 735)], memOf g)) := W
    simp [D_X7_putsBack, S_X7_putsBack, m_den, l0, Value.category, s_seq, s_if, s_st, s_ret, s_retz, s_retv, s_skip, s_sc, s_inc, s_call, e_c, e_li, e_lr, e_lj, e_un, e_bin, e_if, e_b, b_not, b_and, b_or, b_of, e_call, a_recv, a_snoc, a_nil, prI, prJ, prR, e_gi, e_gr, e_ai, e_ar, s_as, s_aop, s_pf, s_pfz, s_fop, l_set, l_ok, e_div, e_rem, e_len, s_tab, W']
  · have e : nI j < (735 : Int32) := lt_lit (n := 735) hj (by omega)
    simp [WB_X7_putsBack_1, m_den, l0, Value.category, s_seq, s_if, s_st, s_ret, s_retz, s_retv, s_skip, s_sc, s_inc, s_call, e_c, e_li, e_lr, e_lj, e_un, e_bin, e_if, e_b, b_not, b_and, b_or, b_of, e_call, a_recv, a_snoc, a_nil, prI, prJ, prR, e_gi, e_gr, e_ai, e_ar, s_as, s_aop, s_pf, s_pfz, s_fop, l_set, l_ok, e_div, e_rem, e_len, s_tab, e]
  · refine ⟨row g 104 (upd (g 104) j (g 106 j)), ?_, fun x hx => by rw [row_ne _ _ hx]; exact hI.1 x hx, fun c hc => ?_, fun y hy => by rw [row_self, upd_ne _ _ (by omega)]; exact hI.2.2 y hy⟩
    · simp [WS_X7_putsBack_1, m_den, l0, Value.category, s_seq, s_if, s_st, s_ret, s_retz, s_retv, s_skip, s_sc, s_inc, s_call, e_c, e_li, e_lr, e_lj, e_un, e_bin, e_if, e_b, b_not, b_and, b_or, b_of, e_call, a_recv, a_snoc, a_nil, prI, prJ, prR, e_gi, e_gr, e_ai, e_ar, s_as, s_aop, s_pf, s_pfz, s_fop, l_set, l_ok, e_div, e_rem, e_len, s_tab, g_103_0, g_103_2, rd_106 g hj, wr_104 g hj, nI_next]
    · rw [row_self]; unfold upd
      by_cases e : c = j
      · rw [if_pos e, e, hI.1 106 (by omega)]
      · rw [if_neg e]; exact hI.2.1 c (by omega)
  · have e : ¬ nI 735 < (735 : Int32) := nlt_lit (n := 735) (by omega)
    simp [WB_X7_putsBack_1, m_den, l0, Value.category, s_seq, s_if, s_st, s_ret, s_retz, s_retv, s_skip, s_sc, s_inc, s_call, e_c, e_li, e_lr, e_lj, e_un, e_bin, e_if, e_b, b_not, b_and, b_or, b_of, e_call, a_recv, a_snoc, a_nil, prI, prJ, prR, e_gi, e_gr, e_ai, e_ar, s_as, s_aop, s_pf, s_pfz, s_fop, l_set, l_ok, e_div, e_rem, e_len, s_tab, e]
