/-! whether a chimney is lit; of, change, parts -/
theorem nI_d {a b : Nat} (ha : a < 2 ^ 31) (hb : b < 2 ^ 31) : nI a / nI b = nI (a / b) := by
  apply Int32.toInt_inj.mp
  have hq : a / b < 2 ^ 31 := Nat.lt_of_le_of_lt (Nat.div_le_self a b) ha
  rw [Int32.toInt_div, nI_toInt ha, nI_toInt hb, nI_toInt hq]
  rw [← Int.ofNat_tdiv]
  have h0 : (0 : Int) ≤ ((a / b : Nat) : Int) := Int.natCast_nonneg _
  have h1 : ((a / b : Nat) : Int) < 2 ^ 31 := by exact_mod_cast hq
  generalize ((a / b : Nat) : Int) = z at h0 h1 ⊢
  apply Int.bmod_eq_of_le <;> omega
theorem nI_s {a b : Nat} (h : b ≤ a) : nI a - nI b = nI (a - b) := by
  have e : nI a = nI (a - b) + nI b := by rw [nI_a, Nat.sub_add_cancel h]
  rw [e, Int32.add_sub_cancel]
theorem nI_r {a b : Nat} (ha : a < 2 ^ 31) (hb : b < 2 ^ 31) : nI a - nI a / nI b * nI b = nI (a % b) := by
  rw [nI_d ha hb, nI_m, nI_s (Nat.div_mul_le_self a b), Nat.mod_eq_sub_div_mul]
theorem rem24 {a : Nat} (ha : a < 2 ^ 31) : nI a - nI a / 24 * 24 = nI (a % 24) := nI_r (b := 24) ha (by omega)
theorem chi_ex {k : Int32} {m : Nat} (h : 0 ≤ k ∧ k ≤ nI m - 1) (hm : m ≤ 8) : ∃ n, n < m ∧ k = nI n := by
  match m, hm with
  | 0, _ => exact absurd (Int32.le_trans h.1 h.2) (by decide)
  | m + 1, hm =>
    have e : nI (m + 1) - 1 = nI m := nI_s (a := m + 1) (b := 1) (by omega)
    rw [e] at h
    obtain ⟨n, hn, e2⟩ := nI_ex h.1 h.2 (by omega)
    exact ⟨n, by omega, e2⟩
theorem chi_le {n m : Nat} (h : n < m) (hm : m ≤ 8) : nI n ≤ nI m - 1 := by
  have e : nI m - 1 = nI (m - 1) := nI_s (a := m) (b := 1) (by omega)
  rw [e]
  exact (nI_le_iff (by omega) (by omega)).mpr (by omega)
def fmod (x y : Int32) : Int32 := if decide (x ^^^ y < 0) && decide (x - x / y * y ≠ 0) then x - x / y * y + y else x - x / y * y
theorem J9_fmod (x : Int32) (M : GM) : D_J9_floorMod_7cf53 [.int x, .int 24] M = some (.int (fmod x 24), M) := by
  by_cases h1 : x ^^^ 24 < 0 <;> by_cases h2 : x - x / 24 * 24 = 0 <;> simp [D_J9_floorMod_7cf53, S_J9_floorMod_7cf53, m_den, l0, Value.category, s_seq, s_if, s_st, s_ret, s_retz, s_retv, s_skip, s_sc, s_inc, s_call, e_c, e_li, e_lr, e_lj, e_un, e_bin, e_if, e_b, b_not, b_and, b_or, b_of, e_call, a_recv, a_snoc, a_nil, prI, prJ, prR, e_gi, e_gr, e_ai, e_ar, s_as, s_aop, s_pf, s_pfz, s_fop, l_set, l_ok, e_div, e_rem, e_len, s_tab, fmod, h1, h2]
theorem fmod_fin : ∀ c : Fin 24, ∀ d : Fin 24, fmod (nI c.1 - nI d.1) 24 = nI ((c.1 + 24 - d.1) % 24) := by decide +kernel
theorem X0_isLitAt (f : FN) {i fi lo cl : Nat} (h : isCh i) (hf : fi < 24) (hl : lo ≤ 24) (hc : cl < 24) (e5 : f (i + 1) 5 = nI fi) (e6 : f (i + 1) 6 = nI lo) : D_X0_isLitAt [.ref i, .int (nI cl)] (memOf f) = some (.int (if litN fi lo cl then 1 else 0), memOf f) := by
  have a : fmod (nI cl - nI fi) 24 = nI ((cl + 24 - fi) % 24) := fmod_fin ⟨cl, hc⟩ ⟨fi, hf⟩
  have b : (nI ((cl + 24 - fi) % 24) < nI lo) = ((cl + 24 - fi) % 24 < lo) := propext (nI_lt_iff (by omega) (by omega))
  by_cases c : (cl + 24 - fi) % 24 < lo <;> simp [D_X0_isLitAt, S_X0_isLitAt, m_den, l0, Value.category, s_seq, s_if, s_st, s_ret, s_retz, s_retv, s_skip, s_sc, s_inc, s_call, e_c, e_li, e_lr, e_lj, e_un, e_bin, e_if, e_b, b_not, b_and, b_or, b_of, e_call, a_recv, a_snoc, a_nil, prI, prJ, prR, e_gi, e_gr, e_ai, e_ar, s_as, s_aop, s_pf, s_pfz, s_fop, l_set, l_ok, e_div, e_rem, e_len, s_tab, gch0 f h, rdt5 f h, rdt6 f h, e5, e6, J9_fmod, a, b, litN, c]
theorem lit_fin : ∀ c : Fin 24, ∀ d : Fin 24, nI c.1 - nI d.1 + 24 - (nI c.1 - nI d.1 + 24) / 24 * 24 = nI ((c.1 + 24 - d.1) % 24) := by decide +kernel
theorem X7_isLit (f : FN) {k fi lo cl : Nat} (h8 : k < 8) (hf : fi < 24) (hl : lo ≤ 24) (hc : cl < 24) (e5 : f 104 (63 + 7 * k + 5) = nI fi) (e6 : f 104 (63 + 7 * k + 6) = nI lo) : D_X7_isLit [.ref 103, .int (nI k), .int (nI cl)] (memOf f) = some (.int (if litN fi lo cl then 1 else 0), memOf f) := by
  have a := lit_fin ⟨cl, hc⟩ ⟨fi, hf⟩
  have b : (nI ((cl + 24 - fi) % 24) < nI lo) = ((cl + 24 - fi) % 24 < lo) := propext (nI_lt_iff (by omega) (by omega))
  simp only at a
  by_cases c : (cl + 24 - fi) % 24 < lo <;> simp [D_X7_isLit, S_X7_isLit, m_den, l0, Value.category, s_seq, s_if, s_st, s_ret, s_retz, s_retv, s_skip, s_sc, s_inc, s_call, e_c, e_li, e_lr, e_lj, e_un, e_bin, e_if, e_b, b_not, b_and, b_or, b_of, e_call, a_recv, a_snoc, a_nil, prI, prJ, prR, e_gi, e_gr, e_ai, e_ar, s_as, s_aop, s_pf, s_pfz, s_fop, l_set, l_ok, e_div, e_rem, e_len, s_tab, rc_103, X7_its5 f h8, X7_its6 f h8, e5, e6, a, b, litN, c]
def burnsN (kd fi first long clock : Nat) : Int32 := if litN first long clock then burnN kd fi clock else 0
theorem X7_burns (f : FN) {k kd fr fi lo cl : Nat} (h8 : k < 8) (hk : kd < 7) (hf : fi < 24) (hl : lo ≤ 24) (hc : cl < 24) (e : f 104 (63 + 7 * k) = nI kd) (e4 : f 104 (63 + 7 * k + 4) = nI fr) (e5 : f 104 (63 + 7 * k + 5) = nI fi) (e6 : f 104 (63 + 7 * k + 6) = nI lo) : D_X7_burns [.ref 103, .int (nI k), .int (nI cl)] (memOf f) = some (.int (burnsN kd fr fi lo cl), memOf f) := by
  cases c : litN fi lo cl <;> simp [D_X7_burns, S_X7_burns, m_den, l0, Value.category, s_seq, s_if, s_st, s_ret, s_retz, s_retv, s_skip, s_sc, s_inc, s_call, e_c, e_li, e_lr, e_lj, e_un, e_bin, e_if, e_b, b_not, b_and, b_or, b_of, e_call, a_recv, a_snoc, a_nil, prI, prJ, prR, e_gi, e_gr, e_ai, e_ar, s_as, s_aop, s_pf, s_pfz, s_fop, l_set, l_ok, e_div, e_rem, e_len, s_tab, rc_103, X7_isLit f h8 hf hl hc e5 e6, X7_burnsAt f h8 hk hc e e4, burnsN, c]
theorem X6_parts_no0 (f : FN) {c w : Int32} (h : ¬ (0 ≤ c ∧ c ≤ f 1 2 - 1 ∧ 0 ≤ w ∧ w ≤ 2)) : D_X6_parts [.ref 0, .int c, .int w] (memOf f) = some (.int (-1000001), memOf (row f 81 (upd (f 81) 0 (f 81 0 + 1)))) := by
  by_cases h1 : 0 ≤ c
  · by_cases h2 : c ≤ f 1 2 - 1
    · by_cases h3 : 0 ≤ w
      · have h4 : ¬ (w ≤ 2) := fun q => h ⟨h1, h2, h3, q⟩
        simp [D_X6_parts, S_X6_parts, m_den, l0, Value.category, s_seq, s_if, s_st, s_ret, s_retz, s_retv, s_skip, s_sc, s_inc, s_call, e_c, e_li, e_lr, e_lj, e_un, e_bin, e_if, e_b, b_not, b_and, b_or, b_of, e_call, a_recv, a_snoc, a_nil, prI, prJ, prR, e_gi, e_gr, e_ai, e_ar, s_as, s_aop, s_pf, s_pfz, s_fop, l_set, l_ok, e_div, e_rem, e_len, s_tab, X6_isIn, X6_isChimney, rc_0, X6_fin_0, h1, h2, h3, h4]
      · simp [D_X6_parts, S_X6_parts, m_den, l0, Value.category, s_seq, s_if, s_st, s_ret, s_retz, s_retv, s_skip, s_sc, s_inc, s_call, e_c, e_li, e_lr, e_lj, e_un, e_bin, e_if, e_b, b_not, b_and, b_or, b_of, e_call, a_recv, a_snoc, a_nil, prI, prJ, prR, e_gi, e_gr, e_ai, e_ar, s_as, s_aop, s_pf, s_pfz, s_fop, l_set, l_ok, e_div, e_rem, e_len, s_tab, X6_isIn, X6_isChimney, rc_0, X6_fin_0, h1, h2, h3]
    · simp [D_X6_parts, S_X6_parts, m_den, l0, Value.category, s_seq, s_if, s_st, s_ret, s_retz, s_retv, s_skip, s_sc, s_inc, s_call, e_c, e_li, e_lr, e_lj, e_un, e_bin, e_if, e_b, b_not, b_and, b_or, b_of, e_call, a_recv, a_snoc, a_nil, prI, prJ, prR, e_gi, e_gr, e_ai, e_ar, s_as, s_aop, s_pf, s_pfz, s_fop, l_set, l_ok, e_div, e_rem, e_len, s_tab, X6_isIn, X6_isChimney, rc_0, X6_fin_0, h1, h2]
  · simp [D_X6_parts, S_X6_parts, m_den, l0, Value.category, s_seq, s_if, s_st, s_ret, s_retz, s_retv, s_skip, s_sc, s_inc, s_call, e_c, e_li, e_lr, e_lj, e_un, e_bin, e_if, e_b, b_not, b_and, b_or, b_of, e_call, a_recv, a_snoc, a_nil, prI, prJ, prR, e_gi, e_gr, e_ai, e_ar, s_as, s_aop, s_pf, s_pfz, s_fop, l_set, l_ok, e_div, e_rem, e_len, s_tab, X6_isIn, X6_isChimney, rc_0, X6_fin_0, h1]
theorem X7_parts_no0 (f : FN) {c w : Int32} (h : ¬ (0 ≤ c ∧ c ≤ f 104 1 - 1 ∧ 0 ≤ w ∧ w ≤ 2)) : D_X7_parts [.ref 103, .int c, .int w] (memOf f) = some (.int (-1000001), memOf (row f 107 (upd (f 107) 0 (f 107 0 + 1)))) := by
  by_cases h1 : 0 ≤ c
  · by_cases h2 : c ≤ f 104 1 - 1
    · by_cases h3 : 0 ≤ w
      · have h4 : ¬ (w ≤ 2) := fun q => h ⟨h1, h2, h3, q⟩
        simp [D_X7_parts, S_X7_parts, m_den, l0, Value.category, s_seq, s_if, s_st, s_ret, s_retz, s_retv, s_skip, s_sc, s_inc, s_call, e_c, e_li, e_lr, e_lj, e_un, e_bin, e_if, e_b, b_not, b_and, b_or, b_of, e_call, a_recv, a_snoc, a_nil, prI, prJ, prR, e_gi, e_gr, e_ai, e_ar, s_as, s_aop, s_pf, s_pfz, s_fop, l_set, l_ok, e_div, e_rem, e_len, s_tab, X7_in, X7_isChimney, j_le_2, j_ge_0, rc_103, X7_fin_0, h1, h2, h3, h4]
      · simp [D_X7_parts, S_X7_parts, m_den, l0, Value.category, s_seq, s_if, s_st, s_ret, s_retz, s_retv, s_skip, s_sc, s_inc, s_call, e_c, e_li, e_lr, e_lj, e_un, e_bin, e_if, e_b, b_not, b_and, b_or, b_of, e_call, a_recv, a_snoc, a_nil, prI, prJ, prR, e_gi, e_gr, e_ai, e_ar, s_as, s_aop, s_pf, s_pfz, s_fop, l_set, l_ok, e_div, e_rem, e_len, s_tab, X7_in, X7_isChimney, j_le_2, j_ge_0, rc_103, X7_fin_0, h1, h2, h3]
    · simp [D_X7_parts, S_X7_parts, m_den, l0, Value.category, s_seq, s_if, s_st, s_ret, s_retz, s_retv, s_skip, s_sc, s_inc, s_call, e_c, e_li, e_lr, e_lj, e_un, e_bin, e_if, e_b, b_not, b_and, b_or, b_of, e_call, a_recv, a_snoc, a_nil, prI, prJ, prR, e_gi, e_gr, e_ai, e_ar, s_as, s_aop, s_pf, s_pfz, s_fop, l_set, l_ok, e_div, e_rem, e_len, s_tab, X7_in, X7_isChimney, j_le_2, j_ge_0, rc_103, X7_fin_0, h1, h2]
  · simp [D_X7_parts, S_X7_parts, m_den, l0, Value.category, s_seq, s_if, s_st, s_ret, s_retz, s_retv, s_skip, s_sc, s_inc, s_call, e_c, e_li, e_lr, e_lj, e_un, e_bin, e_if, e_b, b_not, b_and, b_or, b_of, e_call, a_recv, a_snoc, a_nil, prI, prJ, prR, e_gi, e_gr, e_ai, e_ar, s_as, s_aop, s_pf, s_pfz, s_fop, l_set, l_ok, e_div, e_rem, e_len, s_tab, X7_in, X7_isChimney, j_le_2, j_ge_0, rc_103, X7_fin_0, h1]
theorem rr_6 (f : FN) {n : Nat} (h : n < 8) : gm_rr (memOf f) 6 0 (nI n) = some (chId 1 n) := rr_ch f (b := 1) (Or.inl rfl) h
theorem in2 {w : Int32} (h : 0 ≤ w ∧ w ≤ 2) : w = 0 ∨ w = 1 ∨ w = 2 := by
  obtain ⟨j, hj, rfl⟩ := in_ex (n := 2) h (by omega)
  match j, hj with
  | 0, _ => exact Or.inl rfl
  | 1, _ => exact Or.inr (Or.inl rfl)
  | 2, _ => exact Or.inr (Or.inr rfl)
  | j + 3, hj => exact absurd hj (by omega)
theorem agr_parts {f : FN} (h : REL f) (c w : Int32) : AGR D_X6_parts D_X7_parts [.int c, .int w] f := by
  obtain ⟨⟨m, hT, hV⟩, -⟩ := id h
  have em : f 1 2 = nI m := hT.1.2.2.2.1
  have em' : f 104 1 = nI m := hT.1.2.1.trans em
  have hm := hT.1.2.2.2.2
  by_cases hc : 0 ≤ c ∧ c ≤ nI m - 1 ∧ 0 ≤ w ∧ w ≤ 2
  · obtain ⟨n, hn, rfl⟩ := chi_ex ⟨hc.1, hc.2.1⟩ hm
    have h8 : n < 8 := by omega
    have hC := isCh_town (b := 1) (Or.inl rfl) h8
    obtain ⟨-, -, -, c4, c5, c6⟩ := hT.2.2.2.2.2.1 n hn
    have a1 := hc.1
    have a2 := hc.2.1
    have e1 : (701 : Int32) + nI n = nI (701 + n) := nI_a 701 n
    have e2 : (709 : Int32) + nI n = nI (709 + n) := nI_a 709 n
    have e3 : (717 : Int32) + nI n = nI (717 + n) := nI_a 717 n
    rcases in2 hc.2.2 with rfl | rfl | rfl
    · refine ⟨f (chId 1 n) 3, f, f, ?_, ?_, h⟩
      · simp [D_X6_parts, S_X6_parts, m_den, l0, Value.category, s_seq, s_if, s_st, s_ret, s_retz, s_retv, s_skip, s_sc, s_inc, s_call, e_c, e_li, e_lr, e_lj, e_un, e_bin, e_if, e_b, b_not, b_and, b_or, b_of, e_call, a_recv, a_snoc, a_nil, prI, prJ, prR, e_gi, e_gr, e_ai, e_ar, s_as, s_aop, s_pf, s_pfz, s_fop, l_set, l_ok, e_div, e_rem, e_len, s_tab, rc_0, X6_isIn, X6_isChimney, em, a1, a2, g_0_0, g_1_7, rr_6 f h8, gch3 f hC]
      · simp [D_X7_parts, S_X7_parts, m_den, l0, Value.category, s_seq, s_if, s_st, s_ret, s_retz, s_retv, s_skip, s_sc, s_inc, s_call, e_c, e_li, e_lr, e_lj, e_un, e_bin, e_if, e_b, b_not, b_and, b_or, b_of, e_call, a_recv, a_snoc, a_nil, prI, prJ, prR, e_gi, e_gr, e_ai, e_ar, s_as, s_aop, s_pf, s_pfz, s_fop, l_set, l_ok, e_div, e_rem, e_len, s_tab, rc_103, X7_in, X7_isChimney, em', a1, a2, j_le_2, j_ge_0, g_103_0, e1, rd_104 f (show 701 + n < 735 by omega), c4]
    · refine ⟨f (chId 1 n) 4, f, f, ?_, ?_, h⟩
      · simp [D_X6_parts, S_X6_parts, m_den, l0, Value.category, s_seq, s_if, s_st, s_ret, s_retz, s_retv, s_skip, s_sc, s_inc, s_call, e_c, e_li, e_lr, e_lj, e_un, e_bin, e_if, e_b, b_not, b_and, b_or, b_of, e_call, a_recv, a_snoc, a_nil, prI, prJ, prR, e_gi, e_gr, e_ai, e_ar, s_as, s_aop, s_pf, s_pfz, s_fop, l_set, l_ok, e_div, e_rem, e_len, s_tab, rc_0, X6_isIn, X6_isChimney, em, a1, a2, g_0_0, g_1_7, rr_6 f h8, gch4 f hC]
      · simp [D_X7_parts, S_X7_parts, m_den, l0, Value.category, s_seq, s_if, s_st, s_ret, s_retz, s_retv, s_skip, s_sc, s_inc, s_call, e_c, e_li, e_lr, e_lj, e_un, e_bin, e_if, e_b, b_not, b_and, b_or, b_of, e_call, a_recv, a_snoc, a_nil, prI, prJ, prR, e_gi, e_gr, e_ai, e_ar, s_as, s_aop, s_pf, s_pfz, s_fop, l_set, l_ok, e_div, e_rem, e_len, s_tab, rc_103, X7_in, X7_isChimney, em', a1, a2, j_le_2, j_ge_0, g_103_0, e2, rd_104 f (show 709 + n < 735 by omega), c5]
    · refine ⟨f (chId 1 n) 5, f, f, ?_, ?_, h⟩
      · simp [D_X6_parts, S_X6_parts, m_den, l0, Value.category, s_seq, s_if, s_st, s_ret, s_retz, s_retv, s_skip, s_sc, s_inc, s_call, e_c, e_li, e_lr, e_lj, e_un, e_bin, e_if, e_b, b_not, b_and, b_or, b_of, e_call, a_recv, a_snoc, a_nil, prI, prJ, prR, e_gi, e_gr, e_ai, e_ar, s_as, s_aop, s_pf, s_pfz, s_fop, l_set, l_ok, e_div, e_rem, e_len, s_tab, rc_0, X6_isIn, X6_isChimney, em, a1, a2, g_0_0, g_1_7, rr_6 f h8, gch5 f hC]
      · simp [D_X7_parts, S_X7_parts, m_den, l0, Value.category, s_seq, s_if, s_st, s_ret, s_retz, s_retv, s_skip, s_sc, s_inc, s_call, e_c, e_li, e_lr, e_lj, e_un, e_bin, e_if, e_b, b_not, b_and, b_or, b_of, e_call, a_recv, a_snoc, a_nil, prI, prJ, prR, e_gi, e_gr, e_ai, e_ar, s_as, s_aop, s_pf, s_pfz, s_fop, l_set, l_ok, e_div, e_rem, e_len, s_tab, rc_103, X7_in, X7_isChimney, em', a1, a2, j_le_2, j_ge_0, g_103_0, e3, rd_104 f (show 717 + n < 735 by omega), c6]
  · exact agr_find h (X6_parts_no0 f (by rw [em]; exact hc)) (fun g hg => X7_parts_no0 g (by rw [hg.1, em']; exact hc))
theorem X6_of_no0 (f : FN) {c w : Int32} (h : ¬ (0 ≤ c ∧ c ≤ f 1 2 - 1 ∧ 0 ≤ w ∧ w ≤ 9)) : D_X6_of [.ref 0, .int c, .int w] (memOf f) = some (.int (-1000001), memOf (row f 81 (upd (f 81) 0 (f 81 0 + 1)))) := by
  by_cases h1 : 0 ≤ c
  · by_cases h2 : c ≤ f 1 2 - 1
    · by_cases h3 : 0 ≤ w
      · have h4 : ¬ (w ≤ 9) := fun q => h ⟨h1, h2, h3, q⟩
        simp [D_X6_of, S_X6_of, m_den, l0, Value.category, s_seq, s_if, s_st, s_ret, s_retz, s_retv, s_skip, s_sc, s_inc, s_call, e_c, e_li, e_lr, e_lj, e_un, e_bin, e_if, e_b, b_not, b_and, b_or, b_of, e_call, a_recv, a_snoc, a_nil, prI, prJ, prR, e_gi, e_gr, e_ai, e_ar, s_as, s_aop, s_pf, s_pfz, s_fop, l_set, l_ok, e_div, e_rem, e_len, s_tab, X6_isIn, X6_isChimney, rc_0, X6_fin_0, h1, h2, h3, h4]
      · simp [D_X6_of, S_X6_of, m_den, l0, Value.category, s_seq, s_if, s_st, s_ret, s_retz, s_retv, s_skip, s_sc, s_inc, s_call, e_c, e_li, e_lr, e_lj, e_un, e_bin, e_if, e_b, b_not, b_and, b_or, b_of, e_call, a_recv, a_snoc, a_nil, prI, prJ, prR, e_gi, e_gr, e_ai, e_ar, s_as, s_aop, s_pf, s_pfz, s_fop, l_set, l_ok, e_div, e_rem, e_len, s_tab, X6_isIn, X6_isChimney, rc_0, X6_fin_0, h1, h2, h3]
    · simp [D_X6_of, S_X6_of, m_den, l0, Value.category, s_seq, s_if, s_st, s_ret, s_retz, s_retv, s_skip, s_sc, s_inc, s_call, e_c, e_li, e_lr, e_lj, e_un, e_bin, e_if, e_b, b_not, b_and, b_or, b_of, e_call, a_recv, a_snoc, a_nil, prI, prJ, prR, e_gi, e_gr, e_ai, e_ar, s_as, s_aop, s_pf, s_pfz, s_fop, l_set, l_ok, e_div, e_rem, e_len, s_tab, X6_isIn, X6_isChimney, rc_0, X6_fin_0, h1, h2]
  · simp [D_X6_of, S_X6_of, m_den, l0, Value.category, s_seq, s_if, s_st, s_ret, s_retz, s_retv, s_skip, s_sc, s_inc, s_call, e_c, e_li, e_lr, e_lj, e_un, e_bin, e_if, e_b, b_not, b_and, b_or, b_of, e_call, a_recv, a_snoc, a_nil, prI, prJ, prR, e_gi, e_gr, e_ai, e_ar, s_as, s_aop, s_pf, s_pfz, s_fop, l_set, l_ok, e_div, e_rem, e_len, s_tab, X6_isIn, X6_isChimney, rc_0, X6_fin_0, h1]
theorem X7_of_no0 (f : FN) {c w : Int32} (h : ¬ (0 ≤ c ∧ c ≤ f 104 1 - 1 ∧ 0 ≤ w ∧ w ≤ 9)) : D_X7_of [.ref 103, .int c, .int w] (memOf f) = some (.int (-1000001), memOf (row f 107 (upd (f 107) 0 (f 107 0 + 1)))) := by
  by_cases h1 : 0 ≤ c
  · by_cases h2 : c ≤ f 104 1 - 1
    · by_cases h3 : 0 ≤ w
      · have h4 : ¬ (w ≤ 9) := fun q => h ⟨h1, h2, h3, q⟩
        simp [D_X7_of, S_X7_of, m_den, l0, Value.category, s_seq, s_if, s_st, s_ret, s_retz, s_retv, s_skip, s_sc, s_inc, s_call, e_c, e_li, e_lr, e_lj, e_un, e_bin, e_if, e_b, b_not, b_and, b_or, b_of, e_call, a_recv, a_snoc, a_nil, prI, prJ, prR, e_gi, e_gr, e_ai, e_ar, s_as, s_aop, s_pf, s_pfz, s_fop, l_set, l_ok, e_div, e_rem, e_len, s_tab, X7_in, X7_isChimney, j_le_9, j_ge_0, rc_103, X7_fin_0, h1, h2, h3, h4]
      · simp [D_X7_of, S_X7_of, m_den, l0, Value.category, s_seq, s_if, s_st, s_ret, s_retz, s_retv, s_skip, s_sc, s_inc, s_call, e_c, e_li, e_lr, e_lj, e_un, e_bin, e_if, e_b, b_not, b_and, b_or, b_of, e_call, a_recv, a_snoc, a_nil, prI, prJ, prR, e_gi, e_gr, e_ai, e_ar, s_as, s_aop, s_pf, s_pfz, s_fop, l_set, l_ok, e_div, e_rem, e_len, s_tab, X7_in, X7_isChimney, j_le_9, j_ge_0, rc_103, X7_fin_0, h1, h2, h3]
    · simp [D_X7_of, S_X7_of, m_den, l0, Value.category, s_seq, s_if, s_st, s_ret, s_retz, s_retv, s_skip, s_sc, s_inc, s_call, e_c, e_li, e_lr, e_lj, e_un, e_bin, e_if, e_b, b_not, b_and, b_or, b_of, e_call, a_recv, a_snoc, a_nil, prI, prJ, prR, e_gi, e_gr, e_ai, e_ar, s_as, s_aop, s_pf, s_pfz, s_fop, l_set, l_ok, e_div, e_rem, e_len, s_tab, X7_in, X7_isChimney, j_le_9, j_ge_0, rc_103, X7_fin_0, h1, h2]
  · simp [D_X7_of, S_X7_of, m_den, l0, Value.category, s_seq, s_if, s_st, s_ret, s_retz, s_retv, s_skip, s_sc, s_inc, s_call, e_c, e_li, e_lr, e_lj, e_un, e_bin, e_if, e_b, b_not, b_and, b_or, b_of, e_call, a_recv, a_snoc, a_nil, prI, prJ, prR, e_gi, e_gr, e_ai, e_ar, s_as, s_aop, s_pf, s_pfz, s_fop, l_set, l_ok, e_div, e_rem, e_len, s_tab, X7_in, X7_isChimney, j_le_9, j_ge_0, rc_103, X7_fin_0, h1]
