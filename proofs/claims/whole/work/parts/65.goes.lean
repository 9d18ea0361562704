/-! the reference's wind -/
def HR (σ : Nat → Int32) (k : Nat) (q : SMK) : Prop := (∀ c, c < 36 → σ (125 + 36 * k + c) = nI (q.1 c)) ∧ (∀ c, c < 36 → σ (413 + 36 * k + c) = nI (q.2.1 c)) ∧ σ (701 + k) = nI q.2.2.1 ∧ σ (709 + k) = nI q.2.2.2.1 ∧ σ (717 + k) = nI q.2.2.2.2
def HRt (σ : Nat → Int32) (k : Nat) (tr : Nat → Nat) : Prop := ∀ j, j < 7 → σ (63 + 7 * k + j) = nI (tr j)
def HRoR (σ : Nat → Int32) (ro : Nat → Option Nat) : Prop := ∀ c, c < 36 → σ (3 + c) = atv (ro c) ∧ ∀ o, ro c = some o → o < 6
def HWiR (σ : Nat → Int32) (wd : Nat → Nat) : Prop := ∀ c, c < 24 → σ (39 + c) = nI (wd c) ∧ wd c < 5
def mvd (A : Nat → Nat) (w j c : Nat) : Nat := match bk c w with
  | some y => if y < j then A y else 0
  | none => 0
theorem mvd_0 (A : Nat → Nat) (w c : Nat) : mvd A w 0 c = 0 := by unfold mvd; split <;> simp
theorem mvd_36 {A : Nat → Nat} {w c : Nat} (hw : w < 5) (hc : c < 36) : mvd A w 36 c = mvA A w c := by
  unfold mvd mvA
  cases hb : bk c w with
  | some y => simp only; rw [if_pos (bk_lt hw hc hb)]
  | none => rfl
theorem mvd_succ {A : Nat → Nat} {w j c : Nat} (hw : w < 5) (hj : j < 36) (hc : c < 36) : mvd A w (j + 1) c = mvd A w j c + if mv j w = some c then A j else 0 := by
  unfold mvd
  cases hb : bk c w with
  | some y =>
    simp only
    by_cases e : y = j
    · subst e
      rw [if_pos (by omega), if_neg (by omega), if_pos ((mvbk hw hc hj).mp hb), Nat.zero_add]
    · rw [if_neg (show ¬ mv j w = some c from fun q => e (Option.some.inj (hb.symm.trans ((mvbk hw hc hj).mpr q)))), Nat.add_zero]
      by_cases e2 : y < j
      · rw [if_pos e2, if_pos (by omega)]; rfl
      · rw [if_neg e2, if_neg (by omega)]
  | none =>
    simp only
    rw [if_neg (show ¬ mv j w = some c from fun q => by rw [(mvbk hw hc hj).mpr q] at hb; cases hb)]
theorem X7_goes_W1 (f : FN) (k w : Int32) : ∃ g, W_X7_goes_1 [.ref 103, .int k, .int w, .int 0] (memOf f) = some (.inl ([.ref 103, .int k, .int w, .int (nI 36)], memOf g)) ∧ (∀ j, j ≠ 108 → g j = f j) ∧ ∀ c, c < 36 → g 108 c = 0 := by
  have key := while_rel (b := WB_X7_goes_1) (s := WS_X7_goes_1) (fun j => [.ref 103, .int k, .int w, .int (nI j)]) (fun j g => (∀ x, x ≠ 108 → g x = f x) ∧ ∀ c, c < j → g 108 c = 0) 36 (by unfold FU; omega) (fun j g hj hI => ?_) (fun j g hj hI => ?_) (fun g hI => ?_) (f := f) ⟨fun _ _ => rfl, fun c hc => absurd hc (by omega)⟩
  · exact key
  · have e : nI j < (36 : Int32) := lt_lit (n := 36) hj (by omega)
    simp [WB_X7_goes_1, m_den, l0, Value.category, s_seq, s_if, s_st, s_ret, s_retz, s_retv, s_skip, s_sc, s_inc, s_call, e_c, e_li, e_lr, e_lj, e_un, e_bin, e_if, e_b, b_not, b_and, b_or, b_of, e_call, a_recv, a_snoc, a_nil, prI, prJ, prR, e_gi, e_gr, e_ai, e_ar, s_as, s_aop, s_pf, s_pfz, s_fop, l_set, l_ok, e_div, e_rem, e_len, s_tab, e]
  · refine ⟨row g 108 (upd (g 108) j 0), ?_, fun x hx => by rw [row_ne _ _ hx]; exact hI.1 x hx, fun c hc => ?_⟩
    · simp [WS_X7_goes_1, m_den, l0, Value.category, s_seq, s_if, s_st, s_ret, s_retz, s_retv, s_skip, s_sc, s_inc, s_call, e_c, e_li, e_lr, e_lj, e_un, e_bin, e_if, e_b, b_not, b_and, b_or, b_of, e_call, a_recv, a_snoc, a_nil, prI, prJ, prR, e_gi, e_gr, e_ai, e_ar, s_as, s_aop, s_pf, s_pfz, s_fop, l_set, l_ok, e_div, e_rem, e_len, s_tab, g_103_5, wr_108 g hj, nI_next]
    · rw [row_self]; unfold upd
      by_cases e : c = j
      · rw [if_pos e]
      · rw [if_neg e]; exact hI.2 c (by omega)
  · have e : ¬ nI 36 < (36 : Int32) := nlt_lit (n := 36) (by omega)
    simp [WB_X7_goes_1, m_den, l0, Value.category, s_seq, s_if, s_st, s_ret, s_retz, s_retv, s_skip, s_sc, s_inc, s_call, e_c, e_li, e_lr, e_lj, e_un, e_bin, e_if, e_b, b_not, b_and, b_or, b_of, e_call, a_recv, a_snoc, a_nil, prI, prJ, prR, e_gi, e_gr, e_ai, e_ar, s_as, s_aop, s_pf, s_pfz, s_fop, l_set, l_ok, e_div, e_rem, e_len, s_tab, e]
theorem csI_succ (n : Nat) (g : Nat → Nat) : csI (n + 1) g = csI n g + g n := rfl
theorem X7_goes_W2c (f : FN) {k : Nat} {q : SMK} {z : Int32} (ez : z = 0) (hk : k < 8) (hq : HR (f 104) k q) (hz : ∀ c, c < 36 → f 108 c = 0) : ∃ g, W_X7_goes_2 [.ref 103, .int (nI k), .int z, .int 0] (memOf f) = some (.inl ([.ref 103, .int (nI k), .int z, .int (nI 36)], memOf g)) ∧ (∀ j, j ≠ 104 → g j = f j) ∧ (∀ y, y ≠ 709 + k → g 104 y = f 104 y) ∧ g 104 (709 + k) = nI (q.2.2.2.1 + csI 36 q.1) := by
  obtain ⟨q1, q2, q3, q4, q5⟩ := hq
  have key := while_rel (b := WB_X7_goes_2) (s := WS_X7_goes_2) (fun j => [.ref 103, .int (nI k), .int z, .int (nI j)]) (fun j g => (∀ x, x ≠ 104 → g x = f x) ∧ (∀ y, y ≠ 709 + k → g 104 y = f 104 y) ∧ g 104 (709 + k) = nI (q.2.2.2.1 + csI j q.1)) 36 (by unfold FU; omega) (fun j g hj hI => ?_) (fun j g hj hI => ?_) (fun g hI => ?_) (f := f) ⟨fun _ _ => rfl, fun _ _ => rfl, q4⟩
  · exact key
  · have e : nI j < (36 : Int32) := lt_lit (n := 36) hj (by omega)
    simp [WB_X7_goes_2, m_den, l0, Value.category, s_seq, s_if, s_st, s_ret, s_retz, s_retv, s_skip, s_sc, s_inc, s_call, e_c, e_li, e_lr, e_lj, e_un, e_bin, e_if, e_b, b_not, b_and, b_or, b_of, e_call, a_recv, a_snoc, a_nil, prI, prJ, prR, e_gi, e_gr, e_ai, e_ar, s_as, s_aop, s_pf, s_pfz, s_fop, l_set, l_ok, e_div, e_rem, e_len, s_tab, e]
  · obtain ⟨I1, I2, I3⟩ := hI
    have e0 : ¬ (0 : Int32) ≤ -1 := by decide
    have ez' : (z = 0) = True := eq_true ez
    have e1 : (709 : Int32) + nI k = nI (709 + k) := nI_a 709 k
    have r := rd_104 g (show 125 + 36 * k + j < 735 by omega)
    rw [I2 _ (by omega), q1 j hj] at r
    refine ⟨row g 104 (upd (g 104) (709 + k) (g 104 (709 + k) + nI (q.1 j))), ?_, fun x hx => by rw [row_ne _ _ hx]; exact I1 x hx, fun y hy => by rw [row_self, upd_ne _ _ hy]; exact I2 y hy, ?_⟩
    · simp [WS_X7_goes_2, m_den, l0, Value.category, s_seq, s_if, s_st, s_ret, s_retz, s_retv, s_skip, s_sc, s_inc, s_call, e_c, e_li, e_lr, e_lj, e_un, e_bin, e_if, e_b, b_not, b_and, b_or, b_of, e_call, a_recv, a_snoc, a_nil, prI, prJ, prR, e_gi, e_gr, e_ai, e_ar, s_as, s_aop, s_pf, s_pfz, s_fop, l_set, l_ok, e_div, e_rem, e_len, s_tab, g_103_0, i125, r, ez', e0, e1, rd_104 g (show 709 + k < 735 by omega), wr_104 g (show 709 + k < 735 by omega), nI_next]
    · rw [row_self, upd_self, I3, nI_a, csI_succ, Nat.add_assoc]
  · have e : ¬ nI 36 < (36 : Int32) := nlt_lit (n := 36) (by omega)
    simp [WB_X7_goes_2, m_den, l0, Value.category, s_seq, s_if, s_st, s_ret, s_retz, s_retv, s_skip, s_sc, s_inc, s_call, e_c, e_li, e_lr, e_lj, e_un, e_bin, e_if, e_b, b_not, b_and, b_or, b_of, e_call, a_recv, a_snoc, a_nil, prI, prJ, prR, e_gi, e_gr, e_ai, e_ar, s_as, s_aop, s_pf, s_pfz, s_fop, l_set, l_ok, e_div, e_rem, e_len, s_tab, e]
theorem X7_goes_W2w (f : FN) {k w : Nat} {q : SMK} (hk : k < 8) (hw : w < 5) (hw0 : w ≠ 0) (hq : HR (f 104) k q) (hz : ∀ c, c < 36 → f 108 c = 0) : ∃ g, W_X7_goes_2 [.ref 103, .int (nI k), .int (nI w), .int 0] (memOf f) = some (.inl ([.ref 103, .int (nI k), .int (nI w), .int (nI 36)], memOf g)) ∧ (∀ j, j ≠ 104 → j ≠ 108 → g j = f j) ∧ (∀ y, y ≠ 701 + k → g 104 y = f 104 y) ∧ g 104 (701 + k) = nI (q.2.2.1 + outA q.1 w) ∧ ∀ c, c < 36 → g 108 c = nI (mvA q.1 w c) := by
  obtain ⟨q1, q2, q3, q4, q5⟩ := hq
  have key := while_rel (b := WB_X7_goes_2) (s := WS_X7_goes_2) (fun j => [.ref 103, .int (nI k), .int (nI w), .int (nI j)]) (fun j g => (∀ x, x ≠ 104 → x ≠ 108 → g x = f x) ∧ (∀ y, y ≠ 701 + k → g 104 y = f 104 y) ∧ g 104 (701 + k) = nI (q.2.2.1 + csI j (fun c => if mv c w = none then q.1 c else 0)) ∧ ∀ c, c < 36 → g 108 c = nI (mvd q.1 w j c)) 36 (by unfold FU; omega) (fun j g hj hI => ?_) (fun j g hj hI => ?_) (fun g hI => ?_) (f := f) ⟨fun _ _ _ => rfl, fun _ _ => rfl, q3, fun c hc => by rw [hz c hc, mvd_0]; rfl⟩
  · obtain ⟨g, W, I1, I2, I3, I4⟩ := key
    exact ⟨g, W, I1, I2, I3, fun c hc => by rw [I4 c hc, mvd_36 hw hc]⟩
  · have e : nI j < (36 : Int32) := lt_lit (n := 36) hj (by omega)
    simp [WB_X7_goes_2, m_den, l0, Value.category, s_seq, s_if, s_st, s_ret, s_retz, s_retv, s_skip, s_sc, s_inc, s_call, e_c, e_li, e_lr, e_lj, e_un, e_bin, e_if, e_b, b_not, b_and, b_or, b_of, e_call, a_recv, a_snoc, a_nil, prI, prJ, prR, e_gi, e_gr, e_ai, e_ar, s_as, s_aop, s_pf, s_pfz, s_fop, l_set, l_ok, e_div, e_rem, e_len, s_tab, e]
  · obtain ⟨I1, I2, I3, I4⟩ := hI
    have n0 : ¬ nI w = 0 := fun e => hw0 ((nI_inj (a := w) (b := 0) (by omega) (by omega)).mp e)
    have r := rd_104 g (show 125 + 36 * k + j < 735 by omega)
    rw [I2 _ (by omega), q1 j hj] at r
    have ca := X7_carried (memOf g) hj hw hw0
    cases hm : mv j w with
    | none =>
      rw [hm] at ca
      have ca' : D_X7_carried [.int (nI j), .int (nI w)] (memOf g) = some (.int (-1), memOf g) := ca
      have e0 : ¬ (0 : Int32) ≤ -1 := by decide
      have e1 : (701 : Int32) + nI k = nI (701 + k) := nI_a 701 k
      refine ⟨row g 104 (upd (g 104) (701 + k) (g 104 (701 + k) + nI (q.1 j))), ?_, fun x hx hx2 => by rw [row_ne _ _ hx]; exact I1 x hx hx2, fun y hy => by rw [row_self, upd_ne _ _ hy]; exact I2 y hy, ?_, fun c hc => ?_⟩
      · simp [WS_X7_goes_2, m_den, l0, Value.category, s_seq, s_if, s_st, s_ret, s_retz, s_retv, s_skip, s_sc, s_inc, s_call, e_c, e_li, e_lr, e_lj, e_un, e_bin, e_if, e_b, b_not, b_and, b_or, b_of, e_call, a_recv, a_snoc, a_nil, prI, prJ, prR, e_gi, e_gr, e_ai, e_ar, s_as, s_aop, s_pf, s_pfz, s_fop, l_set, l_ok, e_div, e_rem, e_len, s_tab, g_103_0, i125, r, n0, ca', e0, e1, rd_104 g (show 701 + k < 735 by omega), wr_104 g (show 701 + k < 735 by omega), nI_next]
      · rw [row_self, upd_self, I3, nI_a, csI_succ, if_pos hm, Nat.add_assoc]
      · rw [row_ne _ _ (by omega), I4 c hc, mvd_succ hw hj hc, hm]; rfl
    | some x =>
      rw [hm] at ca
      have hx := mv_lt hj hm
      have ca' : D_X7_carried [.int (nI j), .int (nI w)] (memOf g) = some (.int (nI x), memOf g) := ca
      have e0 : (0 : Int32) ≤ nI x := nI_pos' (by omega)
      refine ⟨row g 108 (upd (g 108) x (g 108 x + nI (q.1 j))), ?_, fun y hy hy2 => by rw [row_ne _ _ hy2]; exact I1 y hy hy2, fun y hy => by rw [row_ne _ _ (by omega)]; exact I2 y hy, ?_, fun c hc => ?_⟩
      · simp [WS_X7_goes_2, m_den, l0, Value.category, s_seq, s_if, s_st, s_ret, s_retz, s_retv, s_skip, s_sc, s_inc, s_call, e_c, e_li, e_lr, e_lj, e_un, e_bin, e_if, e_b, b_not, b_and, b_or, b_of, e_call, a_recv, a_snoc, a_nil, prI, prJ, prR, e_gi, e_gr, e_ai, e_ar, s_as, s_aop, s_pf, s_pfz, s_fop, l_set, l_ok, e_div, e_rem, e_len, s_tab, g_103_0, g_103_5, i125, r, n0, ca', e0, rd_108 g hx, wr_108 g hx, nI_next]
      · rw [row_ne _ _ (by omega), I3, csI_succ, hm]; rfl
      · rw [row_self, mvd_succ hw hj hc, hm]
        unfold upd
        by_cases e : c = x
        · subst e; rw [if_pos rfl, if_pos rfl, I4 c hc, nI_a]
        · rw [if_neg e, if_neg (fun h => e (Option.some.inj h).symm), Nat.add_zero]; exact I4 c hc
  · have e : ¬ nI 36 < (36 : Int32) := nlt_lit (n := 36) (by omega)
    simp [WB_X7_goes_2, m_den, l0, Value.category, s_seq, s_if, s_st, s_ret, s_retz, s_retv, s_skip, s_sc, s_inc, s_call, e_c, e_li, e_lr, e_lj, e_un, e_bin, e_if, e_b, b_not, b_and, b_or, b_of, e_call, a_recv, a_snoc, a_nil, prI, prJ, prR, e_gi, e_gr, e_ai, e_ar, s_as, s_aop, s_pf, s_pfz, s_fop, l_set, l_ok, e_div, e_rem, e_len, s_tab, e]
theorem X7_goes_W3 (f : FN) {k : Nat} (hk : k < 8) (w : Int32) : ∃ g, W_X7_goes_3 [.ref 103, .int (nI k), .int w, .int 0] (memOf f) = some (.inl ([.ref 103, .int (nI k), .int w, .int (nI 36)], memOf g)) ∧ (∀ j, j ≠ 104 → g j = f j) ∧ (∀ y, ¬ (125 + 36 * k ≤ y ∧ y < 161 + 36 * k) → g 104 y = f 104 y) ∧ ∀ c, c < 36 → g 104 (125 + 36 * k + c) = f 108 c := by
  have key := while_rel (b := WB_X7_goes_3) (s := WS_X7_goes_3) (fun j => [.ref 103, .int (nI k), .int w, .int (nI j)]) (fun j g => (∀ x, x ≠ 104 → g x = f x) ∧ (∀ y, ¬ (125 + 36 * k ≤ y ∧ y < 161 + 36 * k) → g 104 y = f 104 y) ∧ ∀ c, c < j → g 104 (125 + 36 * k + c) = f 108 c) 36 (by unfold FU; omega) (fun j g hj hI => ?_) (fun j g hj hI => ?_) (fun g hI => ?_) (f := f) ⟨fun _ _ => rfl, fun _ _ => rfl, fun c hc => absurd hc (by omega)⟩
  · exact key
  · have e : nI j < (36 : Int32) := lt_lit (n := 36) hj (by omega)
    simp [WB_X7_goes_3, m_den, l0, Value.category, s_seq, s_if, s_st, s_ret, s_retz, s_retv, s_skip, s_sc, s_inc, s_call, e_c, e_li, e_lr, e_lj, e_un, e_bin, e_if, e_b, b_not, b_and, b_or, b_of, e_call, a_recv, a_snoc, a_nil, prI, prJ, prR, e_gi, e_gr, e_ai, e_ar, s_as, s_aop, s_pf, s_pfz, s_fop, l_set, l_ok, e_div, e_rem, e_len, s_tab, e]
  · obtain ⟨I1, I2, I3⟩ := hI
    refine ⟨row g 104 (upd (g 104) (125 + 36 * k + j) (f 108 j)), ?_, fun x hx => by rw [row_ne _ _ hx]; exact I1 x hx, fun y hy => by rw [row_self, upd_ne _ _ (by omega)]; exact I2 y hy, fun c hc => ?_⟩
    · have r := rd_108 g hj
      rw [I1 108 (by omega)] at r
      simp [WS_X7_goes_3, m_den, l0, Value.category, s_seq, s_if, s_st, s_ret, s_retz, s_retv, s_skip, s_sc, s_inc, s_call, e_c, e_li, e_lr, e_lj, e_un, e_bin, e_if, e_b, b_not, b_and, b_or, b_of, e_call, a_recv, a_snoc, a_nil, prI, prJ, prR, e_gi, e_gr, e_ai, e_ar, s_as, s_aop, s_pf, s_pfz, s_fop, l_set, l_ok, e_div, e_rem, e_len, s_tab, g_103_0, g_103_5, i125, r, wr_104 g (show 125 + 36 * k + j < 735 by omega), nI_next]
    · rw [row_self]
      by_cases e : c = j
      · subst e; rw [upd_self]
      · rw [upd_ne _ _ (by omega)]; exact I3 c (by omega)
  · have e : ¬ nI 36 < (36 : Int32) := nlt_lit (n := 36) (by omega)
    simp [WB_X7_goes_3, m_den, l0, Value.category, s_seq, s_if, s_st, s_ret, s_retz, s_retv, s_skip, s_sc, s_inc, s_call, e_c, e_li, e_lr, e_lj, e_un, e_bin, e_if, e_b, b_not, b_and, b_or, b_of, e_call, a_recv, a_snoc, a_nil, prI, prJ, prR, e_gi, e_gr, e_ai, e_ar, s_as, s_aop, s_pf, s_pfz, s_fop, l_set, l_ok, e_div, e_rem, e_len, s_tab, e]
theorem X7_goes (f : FN) {k w : Nat} {q : SMK} (hk : k < 8) (hw : w < 5) (hq : HR (f 104) k q) : ∃ g, D_X7_goes [.ref 103, .int (nI k), .int (nI w)] (memOf f) = some (.null, memOf g) ∧ HR (g 104) k (smWind w q) ∧ (∀ x, x ≠ 104 → x ≠ 108 → g x = f x) ∧ ∀ y, ¬ (125 + 36 * k ≤ y ∧ y < 161 + 36 * k) → y ≠ 701 + k → y ≠ 709 + k → g 104 y = f 104 y := by
  obtain ⟨g1, A1, A2, A3⟩ := X7_goes_W1 f (nI k) (nI w)
  have e104 := A2 104 (by omega)
  have hq1 : HR (g1 104) k q := by rw [e104]; exact hq
  by_cases c0 : w = 0
  · subst c0
    obtain ⟨g2, B1, B2, B3, B4⟩ := X7_goes_W2c g1 (z := nI 0) rfl hk hq1 A3
    obtain ⟨g3, C1, C2, C3, C4⟩ := X7_goes_W3 g2 hk (nI 0)
    obtain ⟨q1, q2, q3, q4, q5⟩ := hq
    refine ⟨g3, ?_, ⟨fun c hc => ?_, fun c hc => ?_, ?_, ?_, ?_⟩, fun x h1 h2 => by rw [C2 x h1, B2 x h1, A2 x h2], fun y h1 h2 h3 => by rw [C3 y h1, B3 y h3, e104]⟩
    · simp [D_X7_goes, S_X7_goes, m_den, l0, Value.category, s_seq, s_if, s_st, s_ret, s_retz, s_retv, s_skip, s_sc, s_inc, s_call, e_c, e_li, e_lr, e_lj, e_un, e_bin, e_if, e_b, b_not, b_and, b_or, b_of, e_call, a_recv, a_snoc, a_nil, prI, prJ, prR, e_gi, e_gr, e_ai, e_ar, s_as, s_aop, s_pf, s_pfz, s_fop, l_set, l_ok, e_div, e_rem, e_len, s_tab, A1, B1, C1]
    · rw [C4 c hc, B2 108 (by omega), A3 c hc]; rfl
    · rw [C3 _ (by omega), B3 _ (by omega), e104, q2 c hc]; rfl
    · rw [C3 _ (by omega), B3 _ (by omega), e104, q3]; rfl
    · rw [C3 _ (by omega), B4]; rfl
    · rw [C3 _ (by omega), B3 _ (by omega), e104, q5]; rfl
  · obtain ⟨g2, B1, B2, B3, B4, B5⟩ := X7_goes_W2w g1 hk hw c0 hq1 A3
    obtain ⟨g3, C1, C2, C3, C4⟩ := X7_goes_W3 g2 hk (nI w)
    obtain ⟨q1, q2, q3, q4, q5⟩ := hq
    unfold smWind
    rw [if_neg c0]
    refine ⟨g3, ?_, ⟨fun c hc => ?_, fun c hc => ?_, ?_, ?_, ?_⟩, fun x h1 h2 => by rw [C2 x h1, B2 x h1 h2, A2 x h2], fun y h1 h2 h3 => by rw [C3 y h1, B3 y h2, e104]⟩
    · simp [D_X7_goes, S_X7_goes, m_den, l0, Value.category, s_seq, s_if, s_st, s_ret, s_retz, s_retv, s_skip, s_sc, s_inc, s_call, e_c, e_li, e_lr, e_lj, e_un, e_bin, e_if, e_b, b_not, b_and, b_or, b_of, e_call, a_recv, a_snoc, a_nil, prI, prJ, prR, e_gi, e_gr, e_ai, e_ar, s_as, s_aop, s_pf, s_pfz, s_fop, l_set, l_ok, e_div, e_rem, e_len, s_tab, A1, B1, C1]
    · rw [C4 c hc, B5 c hc]
    · rw [C3 _ (by omega), B3 _ (by omega), e104, q2 c hc]
    · rw [C3 _ (by omega), B4]
    · rw [C3 _ (by omega), B3 _ (by omega), e104, q4]
    · rw [C3 _ (by omega), B3 _ (by omega), e104, q5]
