/-! the reference's word and number -/
def TKR (g : FN) (s e : Nat) : Prop := g 103 13 = nI s ∧ g 103 14 = nI e
def vJ (T : Nat → Nat) (s : Nat) : Nat → Int64
  | 0 => 0
  | n + 1 => if 36028797018963967 < vJ T s n then vJ T s n else 32 * vJ T s n + (nI (T (s + n)) - 96).toInt64
theorem lg_pos (x y : Int64) : (0 < lg_cmp x y) = (y < x) := by
  unfold lg_cmp
  by_cases h : x > y
  · rw [if_pos h]; exact propext ⟨fun _ => h, fun _ => by decide⟩
  · rw [if_neg h]
    by_cases h2 : x = y
    · rw [if_pos h2]; exact propext ⟨fun q => absurd q (by decide), fun q => absurd q h⟩
    · rw [if_neg h2]; exact propext ⟨fun q => absurd q (by decide), fun q => absurd q h⟩
theorem lg_zero (x y : Int64) : (lg_cmp x y = 0) = (x = y) := by
  unfold lg_cmp
  by_cases h : x > y
  · rw [if_pos h]
    refine propext ⟨fun q => absurd q (by decide), fun q => ?_⟩
    subst q
    exact absurd h Int64.lt_irrefl
  · rw [if_neg h]
    by_cases h2 : x = y
    · rw [if_pos h2]; exact propext ⟨fun _ => h2, fun _ => rfl⟩
    · rw [if_neg h2]; exact propext ⟨fun q => absurd q (by decide), fun q => absurd q h2⟩
theorem X7_word (f : FN) {T : Nat → Nat} {t s e : Nat} {wr : Bool} (hT : TPR f T t) (hk : TKR f s e) (hb : s ≤ e ∧ e ≤ t) (hw : f 103 16 = b2i wr) : D_X7_word [.ref 103] (memOf f) = some (.long (if wr || !(letB T t s 1) then 0 else vJ T s (e - s)), memOf f) := by
  obtain ⟨t1, t2, t3⟩ := id hT
  obtain ⟨k1, k2⟩ := hk
  have key := while_count (b := WB_X7_word_1) (s := WS_X7_word_1) (fun j => ([.ref 103, .long (vJ T s j), .null, .int (nI (s + j))], memOf f)) (e - s) (by unfold FU; omega) (fun j hj => ?_) (fun j hj => ?_) ?_
  · have W : W_X7_word_1 [.ref 103, .long 0, .null, .int (nI s)] (memOf f) = some (.inl ([.ref 103, .long (vJ T s (e - s)), .null, .int (nI (s + (e - s)))], memOf f)) := key
    have by1 := X7_byteAt f hT (i := s) (by omega)
    have l1 := fun M => let_b (T := T) (t := t) (i := s) (fun h => (t3 s h).2) M
    cases wr <;> cases h1 : letB T t s 1 <;> simp [D_X7_word, S_X7_word, m_den, l0, Value.category, s_seq, s_if, s_st, s_ret, s_retz, s_retv, s_skip, s_sc, s_inc, s_call, e_c, e_li, e_lr, e_lj, e_un, e_bin, e_if, e_b, b_not, b_and, b_or, b_of, e_call, a_recv, a_snoc, a_nil, prI, prJ, prR, e_gi, e_gr, e_ai, e_ar, s_as, s_aop, s_pf, s_pfz, s_fop, l_set, l_ok, e_div, e_rem, e_len, s_tab, s_stj, g_103_13, k1, W, g_103_16, hw, b2i, rc_103, by1, l1, h1]
  · have e' : nI (s + j) < nI e := (nI_lt_iff (by omega) (by omega)).mpr (by omega)
    simp [WB_X7_word_1, m_den, l0, Value.category, s_seq, s_if, s_st, s_ret, s_retz, s_retv, s_skip, s_sc, s_inc, s_call, e_c, e_li, e_lr, e_lj, e_un, e_bin, e_if, e_b, b_not, b_and, b_or, b_of, e_call, a_recv, a_snoc, a_nil, prI, prJ, prR, e_gi, e_gr, e_ai, e_ar, s_as, s_aop, s_pf, s_pfz, s_fop, l_set, l_ok, e_div, e_rem, e_len, s_tab, g_103_14, k2, e']
  · have r := rd_111 f (show s + j < 120 by omega)
    rw [(t3 _ (by omega)).1] at r
    have ev : vJ T s (j + 1) = if 36028797018963967 < vJ T s j then vJ T s j else 32 * vJ T s j + (nI (T (s + j)) - 96).toInt64 := rfl
    generalize vJ T s j = v at ev ⊢
    generalize vJ T s (j + 1) = v' at ev ⊢
    by_cases c : 36028797018963967 < v
    · rw [if_pos c] at ev
      subst ev
      simp [WS_X7_word_1, m_den, l0, Value.category, s_seq, s_if, s_st, s_ret, s_retz, s_retv, s_skip, s_sc, s_inc, s_call, e_c, e_li, e_lr, e_lj, e_un, e_bin, e_if, e_b, b_not, b_and, b_or, b_of, e_call, a_recv, a_snoc, a_nil, prI, prJ, prR, e_gi, e_gr, e_ai, e_ar, s_as, s_aop, s_pf, s_pfz, s_fop, l_set, l_ok, e_div, e_rem, e_len, s_tab, s_stj, lg_pos, c, nI_next]
      rfl
    · rw [if_neg c] at ev
      subst ev
      simp [WS_X7_word_1, m_den, l0, Value.category, s_seq, s_if, s_st, s_ret, s_retz, s_retv, s_skip, s_sc, s_inc, s_call, e_c, e_li, e_lr, e_lj, e_un, e_bin, e_if, e_b, b_not, b_and, b_or, b_of, e_call, a_recv, a_snoc, a_nil, prI, prJ, prR, e_gi, e_gr, e_ai, e_ar, s_as, s_aop, s_pf, s_pfz, s_fop, l_set, l_ok, e_div, e_rem, e_len, s_tab, s_stj, lg_pos, c, g_103_11, r, nI_next]
      rfl
  · have e' : ¬ nI (s + (e - s)) < nI e := fun q => absurd ((nI_lt_iff (by omega) (by omega)).mp q) (by omega)
    simp [WB_X7_word_1, m_den, l0, Value.category, s_seq, s_if, s_st, s_ret, s_retz, s_retv, s_skip, s_sc, s_inc, s_call, e_c, e_li, e_lr, e_lj, e_un, e_bin, e_if, e_b, b_not, b_and, b_or, b_of, e_call, a_recv, a_snoc, a_nil, prI, prJ, prR, e_gi, e_gr, e_ai, e_ar, s_as, s_aop, s_pf, s_pfz, s_fop, l_set, l_ok, e_div, e_rem, e_len, s_tab, g_103_14, k2, e']
