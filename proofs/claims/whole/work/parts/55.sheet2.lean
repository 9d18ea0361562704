/-! sheet -/
theorem shX_1 (f : FN) (s : Nat) (b n : Int32) : shX f s b n (95 + 2 * s) 1 = n := by
  unfold shX
  rw [row_ne _ _ (by omega), row_self, upd_self]
theorem shX_0 (f : FN) (s : Nat) (b n : Int32) : shX f s b n (95 + 2 * s) 0 = b := by
  unfold shX
  rw [row_ne _ _ (by omega), row_self, upd_ne _ _ (by omega), upd_self]
theorem shX_2 (f : FN) (s : Nat) (b n : Int32) {i : Nat} (h : i < 40) : shX f s b n (96 + 2 * s) i = 0 := by
  unfold shX
  rw [row_self, fil_in _ _ h]
theorem shX_ne (f : FN) {s j : Nat} (b n : Int32) (h1 : j ≠ 95 + 2 * s) (h2 : j ≠ 96 + 2 * s) : shX f s b n j = f j := by
  unfold shX
  rw [row_ne _ _ h2, row_ne _ _ h1, row_ne _ _ h1]
def shR (g : FN) (s : Nat) (b n : Int32) : FN := row (row (row g 112 (upd (g 112) s b)) 113 (upd (g 113) s n)) 114 (zat (40 * s) 40 (g 114))
theorem X7_sheet_ok (g : FN) {s : Nat} (hs : s < 4) {b n : Int32} (hb : b = 0 ∨ b = 8 ∨ b = 16 ∨ b = 32) (h1 : ¬ n < 0) (h2 : ¬ 40 < n) : D_X7_sheet [.ref 103, .int (nI s), .int b, .int n] (memOf g) = some (.int (if b = 0 then 0 else n), memOf (shR g s b (if b = 0 then 0 else n))) := by
  have e1 : (0 : Int32) ≤ nI s := nI_pos' (by omega)
  have e2 : nI s ≤ (3 : Int32) := le_lit (n := 3) (by omega) (by omega)
  have e3 : ∀ q : FN, ∀ x : Nat → Int32, row q 114 x 113 = q 113 := fun q x => row_ne _ _ (by omega)
  have e4 : ∀ q : FN, ∀ x : Nat → Int32, row q 113 x 114 = q 114 := fun q x => row_ne _ _ (by omega)
  have e5 : ∀ q : FN, ∀ x : Nat → Int32, row q 112 x 114 = q 114 := fun q x => row_ne _ _ (by omega)
  have e6 : ∀ q : FN, ∀ x : Nat → Int32, row q 112 x 113 = q 113 := fun q x => row_ne _ _ (by omega)
  rcases hb with rfl | rfl | rfl | rfl <;> simp [D_X7_sheet, S_X7_sheet, m_den, l0, Value.category, s_seq, s_if, s_st, s_ret, s_retz, s_retv, s_skip, s_sc, s_inc, s_call, e_c, e_li, e_lr, e_lj, e_un, e_bin, e_if, e_b, b_not, b_and, b_or, b_of, e_call, a_recv, a_snoc, a_nil, prI, prJ, prR, e_gi, e_gr, e_ai, e_ar, s_as, s_aop, s_pf, s_pfz, s_fop, l_set, l_ok, e_div, e_rem, e_len, s_tab, X7_isOne, e1, e2, h1, h2, g_103_17, g_103_18, wr_112 _ hs, wr_113 _ hs, rd_113 _ hs, X7_sheet_W _ hs, e3, e4, e5, e6, row_self, upd_self, shR]
theorem X6_sheet_ok (f : FN) {s : Nat} (hs : s < 4) {b n : Int32} (hb : b = 0 ∨ b = 8 ∨ b = 16 ∨ b = 32) (h1 : ¬ n < 0) (h2 : ¬ 40 < n) : D_X6_sheet [.ref 0, .int (nI s), .int b, .int n] (memOf f) = some (.int (if b = 0 then 0 else n), memOf (shX f s b (if b = 0 then 0 else n))) := by
  have e1 : (0 : Int32) ≤ nI s := nI_pos' (by omega)
  have e2 : nI s ≤ (3 : Int32) := le_lit (n := 3) (by omega) (by omega)
  rcases hb with rfl | rfl | rfl | rfl <;> simp [D_X6_sheet, S_X6_sheet, m_den, l0, Value.category, s_seq, s_if, s_st, s_ret, s_retz, s_retv, s_skip, s_sc, s_inc, s_call, e_c, e_li, e_lr, e_lj, e_un, e_bin, e_if, e_b, b_not, b_and, b_or, b_of, e_call, a_recv, a_snoc, a_nil, prI, prJ, prR, e_gi, e_gr, e_ai, e_ar, s_as, s_aop, s_pf, s_pfz, s_fop, l_set, l_ok, e_div, e_rem, e_len, s_tab, X6_isSheet, e1, e2, h1, h2, g_0_4, rr_sh _ hs, rcsh _ hs, X2_begin f hs, gsh1 _ hs, shX_1]
theorem X6_sheet_no (f : FN) {s b n : Int32} (h : ¬ ((0 ≤ s ∧ s ≤ 3) ∧ (b = 0 ∨ b = 8 ∨ b = 16 ∨ b = 32))) : D_X6_sheet [.ref 0, .int s, .int b, .int n] (memOf f) = some (.int (-1000001), memOf (row f 81 (upd (f 81) 0 (f 81 0 + 1)))) := by
  by_cases h1 : 0 ≤ s ∧ s ≤ 3
  · have q1 : ¬ b = 0 := fun q => h ⟨h1, Or.inl q⟩
    have q2 : ¬ b = 8 := fun q => h ⟨h1, Or.inr (Or.inl q)⟩
    have q3 : ¬ b = 16 := fun q => h ⟨h1, Or.inr (Or.inr (Or.inl q))⟩
    have q4 : ¬ b = 32 := fun q => h ⟨h1, Or.inr (Or.inr (Or.inr q))⟩
    simp [D_X6_sheet, S_X6_sheet, m_den, l0, Value.category, s_seq, s_if, s_st, s_ret, s_retz, s_retv, s_skip, s_sc, s_inc, s_call, e_c, e_li, e_lr, e_lj, e_un, e_bin, e_if, e_b, b_not, b_and, b_or, b_of, e_call, a_recv, a_snoc, a_nil, prI, prJ, prR, e_gi, e_gr, e_ai, e_ar, s_as, s_aop, s_pf, s_pfz, s_fop, l_set, l_ok, e_div, e_rem, e_len, s_tab, X6_isSheet, h1, q1, q2, q3, q4, rc_0, X6_fin_0]
  · simp [D_X6_sheet, S_X6_sheet, m_den, l0, Value.category, s_seq, s_if, s_st, s_ret, s_retz, s_retv, s_skip, s_sc, s_inc, s_call, e_c, e_li, e_lr, e_lj, e_un, e_bin, e_if, e_b, b_not, b_and, b_or, b_of, e_call, a_recv, a_snoc, a_nil, prI, prJ, prR, e_gi, e_gr, e_ai, e_ar, s_as, s_aop, s_pf, s_pfz, s_fop, l_set, l_ok, e_div, e_rem, e_len, s_tab, X6_isSheet, h1, rc_0, X6_fin_0]
theorem X7_sheet_no (f : FN) {s b n : Int32} (h : ¬ ((0 ≤ s ∧ s ≤ 3) ∧ (b = 0 ∨ b = 8 ∨ b = 16 ∨ b = 32))) : D_X7_sheet [.ref 103, .int s, .int b, .int n] (memOf f) = some (.int (-1000001), memOf (row f 107 (upd (f 107) 0 (f 107 0 + 1)))) := by
  by_cases h1 : 0 ≤ s ∧ s ≤ 3
  · have q1 : ¬ b = 0 := fun q => h ⟨h1, Or.inl q⟩
    have q2 : ¬ b = 8 := fun q => h ⟨h1, Or.inr (Or.inl q)⟩
    have q3 : ¬ b = 16 := fun q => h ⟨h1, Or.inr (Or.inr (Or.inl q))⟩
    have q4 : ¬ b = 32 := fun q => h ⟨h1, Or.inr (Or.inr (Or.inr q))⟩
    simp [D_X7_sheet, S_X7_sheet, m_den, l0, Value.category, s_seq, s_if, s_st, s_ret, s_retz, s_retv, s_skip, s_sc, s_inc, s_call, e_c, e_li, e_lr, e_lj, e_un, e_bin, e_if, e_b, b_not, b_and, b_or, b_of, e_call, a_recv, a_snoc, a_nil, prI, prJ, prR, e_gi, e_gr, e_ai, e_ar, s_as, s_aop, s_pf, s_pfz, s_fop, l_set, l_ok, e_div, e_rem, e_len, s_tab, X7_isOne, h1, q1, q2, q3, q4, rc_103, X7_fin_0]
  · simp [D_X7_sheet, S_X7_sheet, m_den, l0, Value.category, s_seq, s_if, s_st, s_ret, s_retz, s_retv, s_skip, s_sc, s_inc, s_call, e_c, e_li, e_lr, e_lj, e_un, e_bin, e_if, e_b, b_not, b_and, b_or, b_of, e_call, a_recv, a_snoc, a_nil, prI, prJ, prR, e_gi, e_gr, e_ai, e_ar, s_as, s_aop, s_pf, s_pfz, s_fop, l_set, l_ok, e_div, e_rem, e_len, s_tab, X7_isOne, h1, rc_103, X7_fin_0]
theorem agr_sheet {f : FN} (h : REL f) (s b n : Int32) : AGR D_X6_sheet D_X7_sheet [.int s, .int b, .int n] f := by
  by_cases hc : (0 ≤ s ∧ s ≤ 3) ∧ (b = 0 ∨ b = 8 ∨ b = 16 ∨ b = 32)
  · obtain ⟨hs, hb⟩ := hc
    have a1 := hs.1
    have a2 := hs.2
    by_cases h1 : n < 0
    · refine agr_find (j := 6) (v := -1000007) h ?_ (fun g _ => ?_)
      · rcases hb with rfl | rfl | rfl | rfl <;> simp [D_X6_sheet, S_X6_sheet, m_den, l0, Value.category, s_seq, s_if, s_st, s_ret, s_retz, s_retv, s_skip, s_sc, s_inc, s_call, e_c, e_li, e_lr, e_lj, e_un, e_bin, e_if, e_b, b_not, b_and, b_or, b_of, e_call, a_recv, a_snoc, a_nil, prI, prJ, prR, e_gi, e_gr, e_ai, e_ar, s_as, s_aop, s_pf, s_pfz, s_fop, l_set, l_ok, e_div, e_rem, e_len, s_tab, X6_isSheet, a1, a2, h1, rc_0, X6_fin_6]
      · rcases hb with rfl | rfl | rfl | rfl <;> simp [D_X7_sheet, S_X7_sheet, m_den, l0, Value.category, s_seq, s_if, s_st, s_ret, s_retz, s_retv, s_skip, s_sc, s_inc, s_call, e_c, e_li, e_lr, e_lj, e_un, e_bin, e_if, e_b, b_not, b_and, b_or, b_of, e_call, a_recv, a_snoc, a_nil, prI, prJ, prR, e_gi, e_gr, e_ai, e_ar, s_as, s_aop, s_pf, s_pfz, s_fop, l_set, l_ok, e_div, e_rem, e_len, s_tab, X7_isOne, a1, a2, h1, rc_103, X7_fin_6]
    · by_cases h2 : 40 < n
      · refine agr_find (j := 0) (v := -1000001) h ?_ (fun g _ => ?_)
        · rcases hb with rfl | rfl | rfl | rfl <;> simp [D_X6_sheet, S_X6_sheet, m_den, l0, Value.category, s_seq, s_if, s_st, s_ret, s_retz, s_retv, s_skip, s_sc, s_inc, s_call, e_c, e_li, e_lr, e_lj, e_un, e_bin, e_if, e_b, b_not, b_and, b_or, b_of, e_call, a_recv, a_snoc, a_nil, prI, prJ, prR, e_gi, e_gr, e_ai, e_ar, s_as, s_aop, s_pf, s_pfz, s_fop, l_set, l_ok, e_div, e_rem, e_len, s_tab, X6_isSheet, a1, a2, h1, h2, rc_0, X6_fin_0]
        · rcases hb with rfl | rfl | rfl | rfl <;> simp [D_X7_sheet, S_X7_sheet, m_den, l0, Value.category, s_seq, s_if, s_st, s_ret, s_retz, s_retv, s_skip, s_sc, s_inc, s_call, e_c, e_li, e_lr, e_lj, e_un, e_bin, e_if, e_b, b_not, b_and, b_or, b_of, e_call, a_recv, a_snoc, a_nil, prI, prJ, prR, e_gi, e_gr, e_ai, e_ar, s_as, s_aop, s_pf, s_pfz, s_fop, l_set, l_ok, e_div, e_rem, e_len, s_tab, X7_isOne, a1, a2, h1, h2, rc_103, X7_fin_0]
      · obtain ⟨k, hk, rfl⟩ := in_ex (n := 3) hs (by omega)
        obtain ⟨z, hz, rfl⟩ := in_ex (n := 40) ⟨Int32.not_lt.mp h1, Int32.not_lt.mp h2⟩ (by omega)
        obtain ⟨y, hy, ey, hy0⟩ : ∃ y, y ≤ 40 ∧ (if b = 0 then (0 : Int32) else nI z) = nI y ∧ (b = 0 → y = 0) := by
          by_cases c : b = 0
          · exact ⟨0, by omega, by rw [if_pos c]; rfl, fun _ => rfl⟩
          · exact ⟨z, by omega, by rw [if_neg c], fun q => absurd q c⟩
        have x6 := X6_sheet_ok f hk hb h1 h2
        have x7 := X7_sheet_ok (shX f k b (nI y)) hk hb h1 h2
        rw [ey] at x6 x7
        have E : ∀ j, j ≠ 112 → j ≠ 113 → j ≠ 114 → shR (shX f k b (nI y)) k b (nI y) j = shX f k b (nI y) j := fun j q1 q2 q3 => by unfold shR; rw [row_ne _ _ q3, row_ne _ _ q2, row_ne _ _ q1]
        have E2 : shR (shX f k b (nI y)) k b (nI y) 112 = upd (f 112) k b := by unfold shR; rw [row_ne _ _ (by omega), row_ne _ _ (by omega), row_self, shX_ne _ _ _ (by omega) (by omega)]
        have E3 : shR (shX f k b (nI y)) k b (nI y) 113 = upd (f 113) k (nI y) := by unfold shR; rw [row_ne _ _ (by omega), row_self, shX_ne _ _ _ (by omega) (by omega)]
        have E4 : shR (shX f k b (nI y)) k b (nI y) 114 = zat (40 * k) 40 (f 114) := by unfold shR; rw [row_self, shX_ne _ _ _ (by omega) (by omega)]
        refine ⟨nI y, shX f k b (nI y), shR (shX f k b (nI y)) k b (nI y), x6, x7, h.sheet hk (fun j q1 q2 q3 q4 q5 => by rw [E j q3 q4 q5, shX_ne _ _ _ q1 q2]) (fun t ht et => ⟨?_, ?_, fun i hi => ?_⟩) ⟨⟨?_, ?_⟩, ⟨y, hy, ?_, ?_, fun q => hy0 ?_⟩, fun i hi => ?_⟩⟩
        · rw [E2, upd_ne _ _ et]
        · rw [E3, upd_ne _ _ et]
        · rw [E4]; unfold zat; rw [if_neg (by omega)]
        · rw [E _ (by omega) (by omega) (by omega), E2, shX_0, upd_self]
        · rw [E2, upd_self]; exact hb
        · rw [E _ (by omega) (by omega) (by omega), shX_1]
        · rw [E3, upd_self]
        · rw [E2, upd_self] at q; exact q
        · rw [E _ (by omega) (by omega) (by omega), E4, shX_2 _ _ _ _ hi]; unfold zat; rw [if_pos (by omega)]
  · exact agr_find h (X6_sheet_no f hc) (fun g _ => X7_sheet_no g hc)
