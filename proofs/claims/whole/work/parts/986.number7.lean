/-! the reference's number -/
def rv (T : Nat → Nat) (s : Nat) : Nat → Nat
  | 0 => 0
  | n + 1 => if 999 < rv T s n then rv T s n else 10 * rv T s n + (T (s + n) - 48)
theorem rv_le (T : Nat → Nat) (s : Nat) (hd : ∀ i, T i ≤ 300) : ∀ n, rv T s n ≤ 100000 := by
  intro n
  induction n with
  | zero => exact Nat.zero_le _
  | succ n ih =>
    have := hd (s + n)
    unfold rv
    split <;> omega
theorem rv_nv (T : Nat → Nat) (s : Nat) : ∀ n, (nv T s n ≤ 999 → rv T s n = nv T s n) ∧ (999 < nv T s n → 999 < rv T s n) := by
  intro n
  induction n with
  | zero => exact ⟨fun _ => rfl, fun h => absurd h (by unfold nv; omega)⟩
  | succ n ih =>
    have e1 : nv T s (n + 1) = 10 * nv T s n + (T (s + n) - 48) := rfl
    have e2 : rv T s (n + 1) = if 999 < rv T s n then rv T s n else 10 * rv T s n + (T (s + n) - 48) := rfl
    rw [e1, e2]
    by_cases c : nv T s n ≤ 999
    · have a := ih.1 c
      rw [if_neg (by omega), a]
      exact ⟨fun _ => rfl, fun h => h⟩
    · have a := ih.2 (by omega)
      rw [if_pos a]
      exact ⟨fun h => by omega, fun _ => a⟩
theorem X7_number_wr (f : FN) (a b : Int32) (hw : f 103 16 = 1) : D_X7_number [.ref 103, .int a, .int b] (memOf f) = some (.null, memOf f) := by
  simp [D_X7_number, S_X7_number, m_den, l0, Value.category, s_seq, s_if, s_st, s_ret, s_retz, s_retv, s_skip, s_sc, s_inc, s_call, e_c, e_li, e_lr, e_lj, e_un, e_bin, e_if, e_b, b_not, b_and, b_or, b_of, e_call, a_recv, a_snoc, a_nil, prI, prJ, prR, e_gi, e_gr, e_ai, e_ar, s_as, s_aop, s_pf, s_pfz, s_fop, l_set, l_ok, e_div, e_rem, e_len, s_tab, g_103_16, hw]
theorem X7_number (f : FN) {T : Nat → Nat} {t s e : Nat} {hi : Int32} (hT : TPR f T t) (hk : TKR f s e) (hb : s ≤ e ∧ e ≤ t) (hd : letB T t s 2 = true → ∀ i, s ≤ i → i < e → 48 ≤ T i ∧ T i ≤ 57) (hw : f 103 16 = 0) : ∃ v g, (letB T t s 2 = true → v = nI (rv T s (e - s)) ∧ rv T s (e - s) ≤ 100000) ∧ (∀ x, x ≠ 103 → g x = f x) ∧ (∀ y, y ≠ 15 → g 103 y = f 103 y) ∧ g 103 15 = v ∧ ∀ g', D_X7_needs [.ref 103, .int (b2i (letB T t s 2 && decide (0 ≤ v ∧ v ≤ hi)))] (memOf g) = some (.null, memOf g') → D_X7_number [.ref 103, .int 0, .int hi] (memOf f) = some (.null, memOf g') := by
  obtain ⟨t1, t2, t3⟩ := id hT
  obtain ⟨k1, k2⟩ := hk
  have by1 := X7_byteAt f hT (i := s) (by omega)
  have d1 := fun M => dig_b (T := T) (t := t) (i := s) (fun h => (t3 s h).2) M
  have jl : ∀ x : Int32, ((0 : Int32).toInt64 ≤ x.toInt64) = (0 ≤ x) := fun x => propext Int32.toInt64_le
  have z0 : (0 : Int32).toInt64 = 0 := rfl
  by_cases c : letB T t s 2 = true
  · have hdd := hd c
    have hle : ∀ n, n ≤ e - s → rv T s n ≤ 100000 := fun n => by
      induction n with
      | zero => intro _; exact Nat.zero_le _
      | succ n ih =>
        intro hn
        have := ih (by omega)
        have h := hdd (s + n) (by omega) (by omega)
        unfold rv
        split <;> omega
    have key := while_count (b := WB_X7_number_1) (s := WS_X7_number_1) (fun j => ([.ref 103, .int 0, .int hi, .int 1, .int (nI (rv T s j)), .int (nI (s + j))], memOf f)) (e - s) (by unfold FU; omega) (fun j hj => ?_) (fun j hj => ?_) ?_
    · have W : W_X7_number_1 [.ref 103, .int 0, .int hi, .int 1, .int 0, .int (nI s)] (memOf f) = some (.inl ([.ref 103, .int 0, .int hi, .int 1, .int (nI (rv T s (e - s))), .int (nI (s + (e - s)))], memOf f)) := key
      refine ⟨nI (rv T s (e - s)), row f 103 (upd (f 103) 15 (nI (rv T s (e - s)))), fun _ => ⟨rfl, hle _ (Nat.le_refl _)⟩, fun x hx => row_ne _ _ hx, fun y hy => by rw [row_self, upd_ne _ _ hy], by rw [row_self, upd_self], fun g' hg' => ?_⟩
      generalize nI (rv T s (e - s)) = v at W hg' ⊢
      rw [c, Bool.true_and] at hg'
      by_cases cv : 0 ≤ v ∧ v ≤ hi
      · rw [decide_eq_true cv] at hg'
        have hg2 : D_X7_needs [.ref 103, .int 1] (memOf (row f 103 (upd (f 103) 15 v))) = some (.null, memOf g') := hg'
        simp [D_X7_number, S_X7_number, m_den, l0, Value.category, s_seq, s_if, s_st, s_ret, s_retz, s_retv, s_skip, s_sc, s_inc, s_call, e_c, e_li, e_lr, e_lj, e_un, e_bin, e_if, e_b, b_not, b_and, b_or, b_of, e_call, a_recv, a_snoc, a_nil, prI, prJ, prR, e_gi, e_gr, e_ai, e_ar, s_as, s_aop, s_pf, s_pfz, s_fop, l_set, l_ok, e_div, e_rem, e_len, s_tab, g_103_16, hw, g_103_13, k1, rc_103, by1, d1, c, b2i, W, p_103_15, X7_in, j_le, j_ge_0, cv.1, cv.2, hg2]
      · rw [decide_eq_false cv] at hg'
        have hg2 : D_X7_needs [.ref 103, .int 0] (memOf (row f 103 (upd (f 103) 15 v))) = some (.null, memOf g') := hg'
        simp [D_X7_number, S_X7_number, m_den, l0, Value.category, s_seq, s_if, s_st, s_ret, s_retz, s_retv, s_skip, s_sc, s_inc, s_call, e_c, e_li, e_lr, e_lj, e_un, e_bin, e_if, e_b, b_not, b_and, b_or, b_of, e_call, a_recv, a_snoc, a_nil, prI, prJ, prR, e_gi, e_gr, e_ai, e_ar, s_as, s_aop, s_pf, s_pfz, s_fop, l_set, l_ok, e_div, e_rem, e_len, s_tab, g_103_16, hw, g_103_13, k1, rc_103, by1, d1, c, b2i, W, p_103_15, X7_in, j_le, j_ge_0, cv, hg2]
    · have e' : nI (s + j) < nI e := (nI_lt_iff (by omega) (by omega)).mpr (by omega)
      simp [WB_X7_number_1, m_den, l0, Value.category, s_seq, s_if, s_st, s_ret, s_retz, s_retv, s_skip, s_sc, s_inc, s_call, e_c, e_li, e_lr, e_lj, e_un, e_bin, e_if, e_b, b_not, b_and, b_or, b_of, e_call, a_recv, a_snoc, a_nil, prI, prJ, prR, e_gi, e_gr, e_ai, e_ar, s_as, s_aop, s_pf, s_pfz, s_fop, l_set, l_ok, e_div, e_rem, e_len, s_tab, g_103_14, k2, e']
    · have r := rd_111 f (show s + j < 120 by omega)
      rw [(t3 _ (by omega)).1] at r
      have h := hdd (s + j) (by omega) (by omega)
      have hv := hle j (by omega)
      have ev : rv T s (j + 1) = if 999 < rv T s j then rv T s j else 10 * rv T s j + (T (s + j) - 48) := rfl
      rw [ev]
      generalize rv T s j = v at hv ⊢
      have q : ((999 : Int32) < nI v) = (999 < v) := propext (nI_lt_iff (a := 999) (b := v) (by omega) (by omega))
      by_cases c9 : 999 < v
      · rw [if_pos c9]
        simp [WS_X7_number_1, m_den, l0, Value.category, s_seq, s_if, s_st, s_ret, s_retz, s_retv, s_skip, s_sc, s_inc, s_call, e_c, e_li, e_lr, e_lj, e_un, e_bin, e_if, e_b, b_not, b_and, b_or, b_of, e_call, a_recv, a_snoc, a_nil, prI, prJ, prR, e_gi, e_gr, e_ai, e_ar, s_as, s_aop, s_pf, s_pfz, s_fop, l_set, l_ok, e_div, e_rem, e_len, s_tab, q, c9, nI_next]
        rfl
      · rw [if_neg c9]
        have e1 : 10 * nI v + nI (T (s + j)) - 48 = nI (10 * v + (T (s + j) - 48)) := by
          have a1 : 10 * nI v = nI (10 * v) := nI_m 10 v
          have a2 : nI (10 * v + T (s + j)) - 48 = nI (10 * v + T (s + j) - 48) := nI_s (a := 10 * v + T (s + j)) (b := 48) (by omega)
          rw [a1, nI_a, a2, show 10 * v + T (s + j) - 48 = 10 * v + (T (s + j) - 48) by omega]
        simp [WS_X7_number_1, m_den, l0, Value.category, s_seq, s_if, s_st, s_ret, s_retz, s_retv, s_skip, s_sc, s_inc, s_call, e_c, e_li, e_lr, e_lj, e_un, e_bin, e_if, e_b, b_not, b_and, b_or, b_of, e_call, a_recv, a_snoc, a_nil, prI, prJ, prR, e_gi, e_gr, e_ai, e_ar, s_as, s_aop, s_pf, s_pfz, s_fop, l_set, l_ok, e_div, e_rem, e_len, s_tab, q, c9, g_103_11, r, e1, nI_next]
        rfl
    · have e' : ¬ nI (s + (e - s)) < nI e := fun q => absurd ((nI_lt_iff (by omega) (by omega)).mp q) (by omega)
      simp [WB_X7_number_1, m_den, l0, Value.category, s_seq, s_if, s_st, s_ret, s_retz, s_retv, s_skip, s_sc, s_inc, s_call, e_c, e_li, e_lr, e_lj, e_un, e_bin, e_if, e_b, b_not, b_and, b_or, b_of, e_call, a_recv, a_snoc, a_nil, prI, prJ, prR, e_gi, e_gr, e_ai, e_ar, s_as, s_aop, s_pf, s_pfz, s_fop, l_set, l_ok, e_div, e_rem, e_len, s_tab, g_103_14, k2, e']
  · have c' : letB T t s 2 = false := by cases h : letB T t s 2 <;> simp_all
    have W : W_X7_number_1 [.ref 103, .int 0, .int hi, .int 0, .int 0, .int (nI s)] (memOf f) = some (.inl ([.ref 103, .int 0, .int hi, .int 0, .int 0, .int (nI s)], memOf f)) := by
      obtain ⟨m, hm⟩ : ∃ m, FU = m + 1 := ⟨FU - 1, by unfold FU; omega⟩
      unfold W_X7_number_1
      rw [hm]
      refine while_end ?_
      by_cases q : nI s < nI e <;> simp [WB_X7_number_1, m_den, l0, Value.category, s_seq, s_if, s_st, s_ret, s_retz, s_retv, s_skip, s_sc, s_inc, s_call, e_c, e_li, e_lr, e_lj, e_un, e_bin, e_if, e_b, b_not, b_and, b_or, b_of, e_call, a_recv, a_snoc, a_nil, prI, prJ, prR, e_gi, e_gr, e_ai, e_ar, s_as, s_aop, s_pf, s_pfz, s_fop, l_set, l_ok, e_div, e_rem, e_len, s_tab, g_103_14, k2, q]
    refine ⟨0, row f 103 (upd (f 103) 15 0), fun q => absurd q c, fun x hx => row_ne _ _ hx, fun y hy => by rw [row_self, upd_ne _ _ hy], by rw [row_self, upd_self], fun g' hg' => ?_⟩
    rw [c', Bool.false_and] at hg'
    have hg2 : D_X7_needs [.ref 103, .int 0] (memOf (row f 103 (upd (f 103) 15 0))) = some (.null, memOf g') := hg'
    simp [D_X7_number, S_X7_number, m_den, l0, Value.category, s_seq, s_if, s_st, s_ret, s_retz, s_retv, s_skip, s_sc, s_inc, s_call, e_c, e_li, e_lr, e_lj, e_un, e_bin, e_if, e_b, b_not, b_and, b_or, b_of, e_call, a_recv, a_snoc, a_nil, prI, prJ, prR, e_gi, e_gr, e_ai, e_ar, s_as, s_aop, s_pf, s_pfz, s_fop, l_set, l_ok, e_div, e_rem, e_len, s_tab, g_103_16, hw, g_103_13, k1, rc_103, by1, d1, c', b2i, W, p_103_15, hg2]
