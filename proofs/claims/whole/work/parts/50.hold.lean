/-! hold, as, over, touched -/
theorem X6_hold_no0 (f : FN) {s c : Int32} (h : ¬ (0 ≤ s ∧ s ≤ 9 ∧ -1 ≤ c ∧ c ≤ f 1 2 - 1)) : D_X6_hold [.ref 0, .int s, .int c] (memOf f) = some (.int (-1000001), memOf (row f 81 (upd (f 81) 0 (f 81 0 + 1)))) := by
  by_cases h1 : 0 ≤ s
  · by_cases h2 : s ≤ 9
    · by_cases h3 : -1 ≤ c
      · have h4 : ¬ (c ≤ f 1 2 - 1) := fun q => h ⟨h1, h2, h3, q⟩
        simp [D_X6_hold, S_X6_hold, m_den, l0, Value.category, s_seq, s_if, s_st, s_ret, s_retz, s_retv, s_skip, s_sc, s_inc, s_call, e_c, e_li, e_lr, e_lj, e_un, e_bin, e_if, e_b, b_not, b_and, b_or, b_of, e_call, a_recv, a_snoc, a_nil, prI, prJ, prR, e_gi, e_gr, e_ai, e_ar, s_as, s_aop, s_pf, s_pfz, s_fop, l_set, l_ok, e_div, e_rem, e_len, s_tab, X6_isIn, X6_isSpot, g_0_0, g_1_2, rc_0, X6_fin_0, h1, h2, h3, h4]
      · simp [D_X6_hold, S_X6_hold, m_den, l0, Value.category, s_seq, s_if, s_st, s_ret, s_retz, s_retv, s_skip, s_sc, s_inc, s_call, e_c, e_li, e_lr, e_lj, e_un, e_bin, e_if, e_b, b_not, b_and, b_or, b_of, e_call, a_recv, a_snoc, a_nil, prI, prJ, prR, e_gi, e_gr, e_ai, e_ar, s_as, s_aop, s_pf, s_pfz, s_fop, l_set, l_ok, e_div, e_rem, e_len, s_tab, X6_isIn, X6_isSpot, g_0_0, g_1_2, rc_0, X6_fin_0, h1, h2, h3]
    · simp [D_X6_hold, S_X6_hold, m_den, l0, Value.category, s_seq, s_if, s_st, s_ret, s_retz, s_retv, s_skip, s_sc, s_inc, s_call, e_c, e_li, e_lr, e_lj, e_un, e_bin, e_if, e_b, b_not, b_and, b_or, b_of, e_call, a_recv, a_snoc, a_nil, prI, prJ, prR, e_gi, e_gr, e_ai, e_ar, s_as, s_aop, s_pf, s_pfz, s_fop, l_set, l_ok, e_div, e_rem, e_len, s_tab, X6_isIn, X6_isSpot, g_0_0, g_1_2, rc_0, X6_fin_0, h1, h2]
  · simp [D_X6_hold, S_X6_hold, m_den, l0, Value.category, s_seq, s_if, s_st, s_ret, s_retz, s_retv, s_skip, s_sc, s_inc, s_call, e_c, e_li, e_lr, e_lj, e_un, e_bin, e_if, e_b, b_not, b_and, b_or, b_of, e_call, a_recv, a_snoc, a_nil, prI, prJ, prR, e_gi, e_gr, e_ai, e_ar, s_as, s_aop, s_pf, s_pfz, s_fop, l_set, l_ok, e_div, e_rem, e_len, s_tab, X6_isIn, X6_isSpot, g_0_0, g_1_2, rc_0, X6_fin_0, h1]
theorem m1_or {c : Int32} (h : -1 ≤ c) : c = -1 ∨ 0 ≤ c := by
  by_cases h0 : 0 ≤ c
  · exact Or.inr h0
  · left
    have h3 := Int32.le_iff_toInt_le.mp h
    have h4 := Int32.lt_iff_toInt_lt.mp (Int32.not_le.mp h0)
    apply Int32.toInt_inj.mp
    have e5 : (-1 : Int32).toInt = -1 := by decide
    have e6 : (0 : Int32).toInt = 0 := by decide
    rw [e5] at h3 ⊢
    rw [e6] at h4
    omega
theorem m1_le {m : Nat} (hm : m ≤ 8) : (-1 : Int32) ≤ nI m - 1 := by
  have h : ∀ m : Fin 9, (-1 : Int32) ≤ nI m.1 - 1 := by decide +kernel
  exact h ⟨m, by omega⟩
theorem X7_hold_no0 (f : FN) {s c : Int32} {m : Nat} (hm : m ≤ 8) (em : f 104 1 = nI m) (h : ¬ (0 ≤ s ∧ s ≤ 9 ∧ -1 ≤ c ∧ c ≤ nI m - 1)) : D_X7_hold [.ref 103, .int s, .int c] (memOf f) = some (.int (-1000001), memOf (row f 107 (upd (f 107) 0 (f 107 0 + 1)))) := by
  by_cases h1 : 0 ≤ s
  · by_cases h2 : s ≤ 9
    · have h3 : c ≠ -1 := fun q => h ⟨h1, h2, by rw [q]; decide, by rw [q]; exact m1_le hm⟩
      by_cases h4 : 0 ≤ c
      · have h5 : ¬ c ≤ nI m - 1 := fun q => h ⟨h1, h2, Int32.le_trans (by decide) h4, q⟩
        simp [D_X7_hold, S_X7_hold, m_den, l0, Value.category, s_seq, s_if, s_st, s_ret, s_retz, s_retv, s_skip, s_sc, s_inc, s_call, e_c, e_li, e_lr, e_lj, e_un, e_bin, e_if, e_b, b_not, b_and, b_or, b_of, e_call, a_recv, a_snoc, a_nil, prI, prJ, prR, e_gi, e_gr, e_ai, e_ar, s_as, s_aop, s_pf, s_pfz, s_fop, l_set, l_ok, e_div, e_rem, e_len, s_tab, X7_in, X7_isChimney, j_le_9, j_ge_0, rc_103, X7_fin_0, em, h1, h2, h3, h4, h5]
      · simp [D_X7_hold, S_X7_hold, m_den, l0, Value.category, s_seq, s_if, s_st, s_ret, s_retz, s_retv, s_skip, s_sc, s_inc, s_call, e_c, e_li, e_lr, e_lj, e_un, e_bin, e_if, e_b, b_not, b_and, b_or, b_of, e_call, a_recv, a_snoc, a_nil, prI, prJ, prR, e_gi, e_gr, e_ai, e_ar, s_as, s_aop, s_pf, s_pfz, s_fop, l_set, l_ok, e_div, e_rem, e_len, s_tab, X7_in, X7_isChimney, j_le_9, j_ge_0, rc_103, X7_fin_0, em, h1, h2, h3, h4]
    · simp [D_X7_hold, S_X7_hold, m_den, l0, Value.category, s_seq, s_if, s_st, s_ret, s_retz, s_retv, s_skip, s_sc, s_inc, s_call, e_c, e_li, e_lr, e_lj, e_un, e_bin, e_if, e_b, b_not, b_and, b_or, b_of, e_call, a_recv, a_snoc, a_nil, prI, prJ, prR, e_gi, e_gr, e_ai, e_ar, s_as, s_aop, s_pf, s_pfz, s_fop, l_set, l_ok, e_div, e_rem, e_len, s_tab, X7_in, j_le_9, j_ge_0, rc_103, X7_fin_0, h1, h2]
  · simp [D_X7_hold, S_X7_hold, m_den, l0, Value.category, s_seq, s_if, s_st, s_ret, s_retz, s_retv, s_skip, s_sc, s_inc, s_call, e_c, e_li, e_lr, e_lj, e_un, e_bin, e_if, e_b, b_not, b_and, b_or, b_of, e_call, a_recv, a_snoc, a_nil, prI, prJ, prR, e_gi, e_gr, e_ai, e_ar, s_as, s_aop, s_pf, s_pfz, s_fop, l_set, l_ok, e_div, e_rem, e_len, s_tab, X7_in, j_le_9, j_ge_0, rc_103, X7_fin_0, h1]
theorem agr_hold {f : FN} (h : REL f) (s c : Int32) : AGR D_X6_hold D_X7_hold [.int s, .int c] f := by
  obtain ⟨⟨m, hT, hV⟩, -⟩ := id h
  have em : f 1 2 = nI m := hT.1.2.2.2.1
  have em' : f 104 1 = nI m := hT.1.2.1.trans em
  have hm := hT.1.2.2.2.2
  by_cases hc : 0 ≤ s ∧ s ≤ 9 ∧ -1 ≤ c ∧ c ≤ nI m - 1
  · obtain ⟨n, hn, rfl⟩ := in_ex (n := 9) ⟨hc.1, hc.2.1⟩ (by omega)
    have a1 := hc.1
    have a2 := hc.2.1
    have a3 := hc.2.2.1
    have a4 := hc.2.2.2
    have e1 : (725 : Int32) + nI n = nI (725 + n) := nI_a 725 n
    refine ⟨1, row f 5 (upd (f 5) n c), row (row f 5 (upd (f 5) n c)) 104 (upd (f 104) (725 + n) c), ?_, ?_, h.plain hT hV (by omega) (by omega) (by omega) (fun s hs _ => ?_)⟩
    · simp [D_X6_hold, S_X6_hold, m_den, l0, Value.category, s_seq, s_if, s_st, s_ret, s_retz, s_retv, s_skip, s_sc, s_inc, s_call, e_c, e_li, e_lr, e_lj, e_un, e_bin, e_if, e_b, b_not, b_and, b_or, b_of, e_call, a_recv, a_snoc, a_nil, prI, prJ, prR, e_gi, e_gr, e_ai, e_ar, s_as, s_aop, s_pf, s_pfz, s_fop, l_set, l_ok, e_div, e_rem, e_len, s_tab, X6_isIn, X6_isSpot, g_0_0, g_1_2, g_1_6, em, a1, a2, a3, a4, wr_5 f hn]
    · have e2 : row f 5 (upd (f 5) n c) 104 = f 104 := row_ne _ _ (by omega)
      rcases m1_or a3 with rfl | a5
      · simp [D_X7_hold, S_X7_hold, m_den, l0, Value.category, s_seq, s_if, s_st, s_ret, s_retz, s_retv, s_skip, s_sc, s_inc, s_call, e_c, e_li, e_lr, e_lj, e_un, e_bin, e_if, e_b, b_not, b_and, b_or, b_of, e_call, a_recv, a_snoc, a_nil, prI, prJ, prR, e_gi, e_gr, e_ai, e_ar, s_as, s_aop, s_pf, s_pfz, s_fop, l_set, l_ok, e_div, e_rem, e_len, s_tab, X7_in, j_le_9, j_ge_0, g_103_0, e1, a1, a2, wr_104 _ (show 725 + n < 735 by omega), e2]
      · have a6 : c ≠ -1 := fun q => absurd (q ▸ a5) (by decide)
        simp [D_X7_hold, S_X7_hold, m_den, l0, Value.category, s_seq, s_if, s_st, s_ret, s_retz, s_retv, s_skip, s_sc, s_inc, s_call, e_c, e_li, e_lr, e_lj, e_un, e_bin, e_if, e_b, b_not, b_and, b_or, b_of, e_call, a_recv, a_snoc, a_nil, prI, prJ, prR, e_gi, e_gr, e_ai, e_ar, s_as, s_aop, s_pf, s_pfz, s_fop, l_set, l_ok, e_div, e_rem, e_len, s_tab, X7_in, X7_isChimney, rc_103, j_le_9, j_ge_0, g_103_0, e1, a1, a2, a4, a5, a6, wr_104 _ (show 725 + n < 735 by omega), e2, em']
    · rcases m1_or a3 with a5 | a5
      · exact Or.inl a5
      · exact Or.inr (chi_ex ⟨a5, a4⟩ hm)
  · exact agr_find h (X6_hold_no0 f (by rw [em]; exact hc)) (fun g hg => X7_hold_no0 g hm (by rw [hg.1, em']) hc)
/-! kinds under kinds -/
def abvN (k : Nat) : Option Nat := match k with
  | 0 => none
  | 1 => some 0
  | 2 => some 0
  | 3 => some 0
  | 4 => some 1
  | 5 => some 2
  | _ => some 3
def atv (o : Option Nat) : Int32 := match o with
  | none => -1
  | some k => nI k
def und (l : Nat) (o : Option Nat) (ab : Nat) : Bool := match l, o with
  | 0, _ => false
  | _ + 1, none => false
  | l + 1, some k => if k = ab then true else und l (abvN k) ab
theorem abv_lt {k : Nat} (h : k < 7) : ∀ j, abvN k = some j → j < 7 := by
  match k, h with
  | 0, _ => intro j hj; simp [abvN] at hj
  | 1, _ => intro j hj; simp [abvN] at hj; omega
  | 2, _ => intro j hj; simp [abvN] at hj; omega
  | 3, _ => intro j hj; simp [abvN] at hj; omega
  | 4, _ => intro j hj; simp [abvN] at hj; omega
  | 5, _ => intro j hj; simp [abvN] at hj; omega
  | 6, _ => intro j hj; simp [abvN] at hj; omega
  | k + 7, hk => exact absurd hk (by omega)
theorem rd_abv (M : GM) {k : Nat} (h : k < 7) : gm_rd M (SPB + 1) (nI k) = some (atv (abvN k)) := by
  match k, h with
  | 0, _ => exact rd_st _ rfl rfl (by omega)
  | 1, _ => exact rd_st _ rfl rfl (by omega)
  | 2, _ => exact rd_st _ rfl rfl (by omega)
  | 3, _ => exact rd_st _ rfl rfl (by omega)
  | 4, _ => exact rd_st _ rfl rfl (by omega)
  | 5, _ => exact rd_st _ rfl rfl (by omega)
  | 6, _ => exact rd_st _ rfl rfl (by omega)
  | k + 7, hk => exact absurd hk (by omega)
theorem X6_isUnder_W (M : GM) {x0 : Int32} {ab : Nat} (hab : ab < 7) : ∀ (r : Nat) (o : Option Nat) (n : Nat), r ≤ 3 → r < n → (∀ j, o = some j → j < 7) → ∃ x y : Int32, s_while WB_X6_isUnder_1 WS_X6_isUnder_1 n [.int x0, .int (nI ab), .int (atv o), .int (nI (3 - r))] M = some (if und r o ab then .inr (.int 1, M) else .inl ([.int x0, .int (nI ab), .int x, .int y], M)) := by
  intro r
  induction r with
  | zero =>
    intro o n _ hn ho
    obtain ⟨n, rfl⟩ : ∃ k, n = k + 1 := ⟨n - 1, by omega⟩
    refine ⟨_, _, while_end (M1 := M) ?_⟩
    have e : ¬ nI 3 < (3 : Int32) := nlt_lit (n := 3) (by omega)
    simp [WB_X6_isUnder_1, m_den, l0, Value.category, s_seq, s_if, s_st, s_ret, s_retz, s_retv, s_skip, s_sc, s_inc, s_call, e_c, e_li, e_lr, e_lj, e_un, e_bin, e_if, e_b, b_not, b_and, b_or, b_of, e_call, a_recv, a_snoc, a_nil, prI, prJ, prR, e_gi, e_gr, e_ai, e_ar, s_as, s_aop, s_pf, s_pfz, s_fop, l_set, l_ok, e_div, e_rem, e_len, s_tab, e]
  | succ r ih =>
    intro o n hr hn ho
    obtain ⟨n, rfl⟩ : ∃ k, n = k + 1 := ⟨n - 1, by omega⟩
    have e : nI (3 - (r + 1)) < (3 : Int32) := lt_lit (n := 3) (by omega) (by omega)
    cases o with
    | none =>
      refine ⟨_, _, while_end (M1 := M) ?_⟩
      simp [WB_X6_isUnder_1, m_den, l0, Value.category, s_seq, s_if, s_st, s_ret, s_retz, s_retv, s_skip, s_sc, s_inc, s_call, e_c, e_li, e_lr, e_lj, e_un, e_bin, e_if, e_b, b_not, b_and, b_or, b_of, e_call, a_recv, a_snoc, a_nil, prI, prJ, prR, e_gi, e_gr, e_ai, e_ar, s_as, s_aop, s_pf, s_pfz, s_fop, l_set, l_ok, e_div, e_rem, e_len, s_tab, e, X6_isKind, atv]
    | some k =>
      have hk := ho k rfl
      have a1 : (0 : Int32) ≤ nI k := nI_pos' (by omega)
      have a2 : nI k ≤ (6 : Int32) := le_lit (n := 6) (by omega) (by omega)
      have hb : WB_X6_isUnder_1 [.int x0, .int (nI ab), .int (atv (some k)), .int (nI (3 - (r + 1)))] M = some (true, M) := by
        have e' : nI (2 - r) < (3 : Int32) := lt_lit (n := 3) (by omega) (by omega)
        simp [WB_X6_isUnder_1, m_den, l0, Value.category, s_seq, s_if, s_st, s_ret, s_retz, s_retv, s_skip, s_sc, s_inc, s_call, e_c, e_li, e_lr, e_lj, e_un, e_bin, e_if, e_b, b_not, b_and, b_or, b_of, e_call, a_recv, a_snoc, a_nil, prI, prJ, prR, e_gi, e_gr, e_ai, e_ar, s_as, s_aop, s_pf, s_pfz, s_fop, l_set, l_ok, e_div, e_rem, e_len, s_tab, e', X6_isKind, atv, a1, a2]
      by_cases c : k = ab
      · subst c
        refine ⟨0, 0, ?_⟩
        rw [while_ret (M1 := M) (q := (.int 1, M)) hb (by simp [WS_X6_isUnder_1, m_den, l0, Value.category, s_seq, s_if, s_st, s_ret, s_retz, s_retv, s_skip, s_sc, s_inc, s_call, e_c, e_li, e_lr, e_lj, e_un, e_bin, e_if, e_b, b_not, b_and, b_or, b_of, e_call, a_recv, a_snoc, a_nil, prI, prJ, prR, e_gi, e_gr, e_ai, e_ar, s_as, s_aop, s_pf, s_pfz, s_fop, l_set, l_ok, e_div, e_rem, e_len, s_tab, atv])]
        simp [und]
      · have c2 : ¬ nI k = nI ab := fun q => c ((nI_inj (by omega) (by omega)).mp q)
        have e2 : nI (2 - r) + 1 = nI (3 - r) := by rw [nI_next]; congr 1; omega
        have hs : WS_X6_isUnder_1 [.int x0, .int (nI ab), .int (atv (some k)), .int (nI (3 - (r + 1)))] M = some (.inl ([.int x0, .int (nI ab), .int (atv (abvN k)), .int (nI (3 - r))], M)) := by
          have q : atv (some k) = nI k := rfl
          rw [q]
          simp [WS_X6_isUnder_1, m_den, l0, Value.category, s_seq, s_if, s_st, s_ret, s_retz, s_retv, s_skip, s_sc, s_inc, s_call, e_c, e_li, e_lr, e_lj, e_un, e_bin, e_if, e_b, b_not, b_and, b_or, b_of, e_call, a_recv, a_snoc, a_nil, prI, prJ, prR, e_gi, e_gr, e_ai, e_ar, s_as, s_aop, s_pf, s_pfz, s_fop, l_set, l_ok, e_div, e_rem, e_len, s_tab, c2, rd_abv M hk, e2]
        obtain ⟨x, y, q⟩ := ih (abvN k) n (by omega) (by omega) (abv_lt hk)
        refine ⟨x, y, ?_⟩
        rw [while_step (M1 := M) hb hs, q]
        simp [und, c]
theorem X6_isUnder (M : GM) {kd ab : Nat} (hk : kd < 7) (ha : ab < 7) : D_X6_isUnder [.int (nI kd), .int (nI ab)] M = some (.int (if und 3 (some kd) ab then 1 else 0), M) := by
  obtain ⟨x, y, q⟩ := X6_isUnder_W M (x0 := nI kd) ha 3 (some kd) FU (by omega) (by unfold FU; omega) (fun j hj => by cases hj; exact hk)
  have q2 : W_X6_isUnder_1 [.int (nI kd), .int (nI ab), .int (nI kd), .int 0] M = some (if und 3 (some kd) ab then .inr (.int 1, M) else .inl ([.int (nI kd), .int (nI ab), .int x, .int y], M)) := q
  cases c : und 3 (some kd) ab <;> simp [c] at q2 <;> simp [D_X6_isUnder, S_X6_isUnder, m_den, l0, Value.category, s_seq, s_if, s_st, s_ret, s_retz, s_retv, s_skip, s_sc, s_inc, s_call, e_c, e_li, e_lr, e_lj, e_un, e_bin, e_if, e_b, b_not, b_and, b_or, b_of, e_call, a_recv, a_snoc, a_nil, prI, prJ, prR, e_gi, e_gr, e_ai, e_ar, s_as, s_aop, s_pf, s_pfz, s_fop, l_set, l_ok, e_div, e_rem, e_len, s_tab, q2]
theorem lt7 {k : Nat} (h : k < 7) : k = 0 ∨ k = 1 ∨ k = 2 ∨ k = 3 ∨ k = 4 ∨ k = 5 ∨ k = 6 := by omega
theorem X7_isUnder (f : FN) {k kd ab : Nat} (h8 : k < 8) (hk : kd < 7) (ha : ab < 7) (e : f 104 (63 + 7 * k) = nI kd) : D_X7_isUnder [.ref 103, .int (nI k), .int (nI ab)] (memOf f) = some (.int (if und 3 (some kd) ab then 1 else 0), memOf f) := by
  rcases lt7 hk with rfl | rfl | rfl | rfl | rfl | rfl | rfl <;> rcases lt7 ha with rfl | rfl | rfl | rfl | rfl | rfl | rfl <;> simp [D_X7_isUnder, S_X7_isUnder, m_den, l0, Value.category, s_seq, s_if, s_st, s_ret, s_retz, s_retv, s_skip, s_sc, s_inc, s_call, e_c, e_li, e_lr, e_lj, e_un, e_bin, e_if, e_b, b_not, b_and, b_or, b_of, e_call, a_recv, a_snoc, a_nil, prI, prJ, prR, e_gi, e_gr, e_ai, e_ar, s_as, s_aop, s_pf, s_pfz, s_fop, l_set, l_ok, e_div, e_rem, e_len, s_tab, rc_103, X7_its0 f h8, e, und, abvN, show nI 0 = 0 from rfl, show nI 1 = 1 from rfl, show nI 2 = 2 from rfl, show nI 3 = 3 from rfl, show nI 4 = 4 from rfl, show nI 5 = 5 from rfl, show nI 6 = 6 from rfl]
theorem X6_as_no0 (f : FN) {s c : Int32} (h : ¬ (0 ≤ s ∧ s ≤ 9 ∧ 0 ≤ c ∧ c ≤ 6)) : D_X6_as [.ref 0, .int s, .int c] (memOf f) = some (.int (-1000001), memOf (row f 81 (upd (f 81) 0 (f 81 0 + 1)))) := by
  by_cases h1 : 0 ≤ s
  · by_cases h2 : s ≤ 9
    · by_cases h3 : 0 ≤ c
      · have h4 : ¬ (c ≤ 6) := fun q => h ⟨h1, h2, h3, q⟩
        simp [D_X6_as, S_X6_as, m_den, l0, Value.category, s_seq, s_if, s_st, s_ret, s_retz, s_retv, s_skip, s_sc, s_inc, s_call, e_c, e_li, e_lr, e_lj, e_un, e_bin, e_if, e_b, b_not, b_and, b_or, b_of, e_call, a_recv, a_snoc, a_nil, prI, prJ, prR, e_gi, e_gr, e_ai, e_ar, s_as, s_aop, s_pf, s_pfz, s_fop, l_set, l_ok, e_div, e_rem, e_len, s_tab, X6_isKind, X6_isSpot, rc_0, X6_fin_0, h1, h2, h3, h4]
      · simp [D_X6_as, S_X6_as, m_den, l0, Value.category, s_seq, s_if, s_st, s_ret, s_retz, s_retv, s_skip, s_sc, s_inc, s_call, e_c, e_li, e_lr, e_lj, e_un, e_bin, e_if, e_b, b_not, b_and, b_or, b_of, e_call, a_recv, a_snoc, a_nil, prI, prJ, prR, e_gi, e_gr, e_ai, e_ar, s_as, s_aop, s_pf, s_pfz, s_fop, l_set, l_ok, e_div, e_rem, e_len, s_tab, X6_isKind, X6_isSpot, rc_0, X6_fin_0, h1, h2, h3]
    · simp [D_X6_as, S_X6_as, m_den, l0, Value.category, s_seq, s_if, s_st, s_ret, s_retz, s_retv, s_skip, s_sc, s_inc, s_call, e_c, e_li, e_lr, e_lj, e_un, e_bin, e_if, e_b, b_not, b_and, b_or, b_of, e_call, a_recv, a_snoc, a_nil, prI, prJ, prR, e_gi, e_gr, e_ai, e_ar, s_as, s_aop, s_pf, s_pfz, s_fop, l_set, l_ok, e_div, e_rem, e_len, s_tab, X6_isKind, X6_isSpot, rc_0, X6_fin_0, h1, h2]
  · simp [D_X6_as, S_X6_as, m_den, l0, Value.category, s_seq, s_if, s_st, s_ret, s_retz, s_retv, s_skip, s_sc, s_inc, s_call, e_c, e_li, e_lr, e_lj, e_un, e_bin, e_if, e_b, b_not, b_and, b_or, b_of, e_call, a_recv, a_snoc, a_nil, prI, prJ, prR, e_gi, e_gr, e_ai, e_ar, s_as, s_aop, s_pf, s_pfz, s_fop, l_set, l_ok, e_div, e_rem, e_len, s_tab, X6_isKind, X6_isSpot, rc_0, X6_fin_0, h1]
theorem X7_as_no0 (f : FN) {s c : Int32} (h : ¬ (0 ≤ s ∧ s ≤ 9 ∧ 0 ≤ c ∧ c ≤ 6)) : D_X7_as [.ref 103, .int s, .int c] (memOf f) = some (.int (-1000001), memOf (row f 107 (upd (f 107) 0 (f 107 0 + 1)))) := by
  by_cases h1 : 0 ≤ s
  · by_cases h2 : s ≤ 9
    · by_cases h3 : 0 ≤ c
      · have h4 : ¬ (c ≤ 6) := fun q => h ⟨h1, h2, h3, q⟩
        simp [D_X7_as, S_X7_as, m_den, l0, Value.category, s_seq, s_if, s_st, s_ret, s_retz, s_retv, s_skip, s_sc, s_inc, s_call, e_c, e_li, e_lr, e_lj, e_un, e_bin, e_if, e_b, b_not, b_and, b_or, b_of, e_call, a_recv, a_snoc, a_nil, prI, prJ, prR, e_gi, e_gr, e_ai, e_ar, s_as, s_aop, s_pf, s_pfz, s_fop, l_set, l_ok, e_div, e_rem, e_len, s_tab, X7_in, j_le_9, j_le_6, j_ge_0, rc_103, X7_fin_0, h1, h2, h3, h4]
      · simp [D_X7_as, S_X7_as, m_den, l0, Value.category, s_seq, s_if, s_st, s_ret, s_retz, s_retv, s_skip, s_sc, s_inc, s_call, e_c, e_li, e_lr, e_lj, e_un, e_bin, e_if, e_b, b_not, b_and, b_or, b_of, e_call, a_recv, a_snoc, a_nil, prI, prJ, prR, e_gi, e_gr, e_ai, e_ar, s_as, s_aop, s_pf, s_pfz, s_fop, l_set, l_ok, e_div, e_rem, e_len, s_tab, X7_in, j_le_9, j_le_6, j_ge_0, rc_103, X7_fin_0, h1, h2, h3]
    · simp [D_X7_as, S_X7_as, m_den, l0, Value.category, s_seq, s_if, s_st, s_ret, s_retz, s_retv, s_skip, s_sc, s_inc, s_call, e_c, e_li, e_lr, e_lj, e_un, e_bin, e_if, e_b, b_not, b_and, b_or, b_of, e_call, a_recv, a_snoc, a_nil, prI, prJ, prR, e_gi, e_gr, e_ai, e_ar, s_as, s_aop, s_pf, s_pfz, s_fop, l_set, l_ok, e_div, e_rem, e_len, s_tab, X7_in, j_le_9, j_le_6, j_ge_0, rc_103, X7_fin_0, h1, h2]
  · simp [D_X7_as, S_X7_as, m_den, l0, Value.category, s_seq, s_if, s_st, s_ret, s_retz, s_retv, s_skip, s_sc, s_inc, s_call, e_c, e_li, e_lr, e_lj, e_un, e_bin, e_if, e_b, b_not, b_and, b_or, b_of, e_call, a_recv, a_snoc, a_nil, prI, prJ, prR, e_gi, e_gr, e_ai, e_ar, s_as, s_aop, s_pf, s_pfz, s_fop, l_set, l_ok, e_div, e_rem, e_len, s_tab, X7_in, j_le_9, j_le_6, j_ge_0, rc_103, X7_fin_0, h1]
theorem agr_as {f : FN} (h : REL f) (s c : Int32) : AGR D_X6_as D_X7_as [.int s, .int c] f := by
  obtain ⟨⟨m, hT, hV⟩, -⟩ := id h
  have em : f 1 2 = nI m := hT.1.2.2.2.1
  have em' : f 104 1 = nI m := hT.1.2.1.trans em
  have hm := hT.1.2.2.2.2
  by_cases hc : 0 ≤ s ∧ s ≤ 9 ∧ 0 ≤ c ∧ c ≤ 6
  · obtain ⟨n, hn, rfl⟩ := in_ex (n := 9) ⟨hc.1, hc.2.1⟩ (by omega)
    obtain ⟨ab, hab, rfl⟩ := in_ex (n := 6) hc.2.2 (by omega)
    have a1 := hc.1
    have a2 := hc.2.1
    have a3 := hc.2.2.1
    have a4 := hc.2.2.2
    have e1 : (725 : Int32) + nI n = nI (725 + n) := nI_a 725 n
    have e2 := hT.2.2.2.2.1 n hn
    rcases hV.2.2.2.1 n hn with b | ⟨k, hk, b⟩
    · have b' : f 5 n = -1 := e2.symm.trans b
      refine agr_find (j := 5) (v := -1000006) h ?_ (fun g hg => ?_)
      · simp [D_X6_as, S_X6_as, m_den, l0, Value.category, s_seq, s_if, s_st, s_ret, s_retz, s_retv, s_skip, s_sc, s_inc, s_call, e_c, e_li, e_lr, e_lj, e_un, e_bin, e_if, e_b, b_not, b_and, b_or, b_of, e_call, a_recv, a_snoc, a_nil, prI, prJ, prR, e_gi, e_gr, e_ai, e_ar, s_as, s_aop, s_pf, s_pfz, s_fop, l_set, l_ok, e_div, e_rem, e_len, s_tab, X6_isKind, X6_isSpot, X6_isChimney, X6_fin_5, rc_0, a1, a2, a3, a4, g_0_0, g_1_6, rd_5 f hn, b']
      · simp [D_X7_as, S_X7_as, m_den, l0, Value.category, s_seq, s_if, s_st, s_ret, s_retz, s_retv, s_skip, s_sc, s_inc, s_call, e_c, e_li, e_lr, e_lj, e_un, e_bin, e_if, e_b, b_not, b_and, b_or, b_of, e_call, a_recv, a_snoc, a_nil, prI, prJ, prR, e_gi, e_gr, e_ai, e_ar, s_as, s_aop, s_pf, s_pfz, s_fop, l_set, l_ok, e_div, e_rem, e_len, s_tab, X7_in, j_le_9, j_le_6, j_ge_0, X7_fin_5, rc_103, a1, a2, a3, a4, e1, g_103_0, rd_104 _ (show 725 + n < 735 by omega), hg.1, b]
    · have b' : f 5 n = nI k := e2.symm.trans b
      have h8 : k < 8 := by omega
      have hC := isCh_town (b := 1) (Or.inl rfl) h8
      obtain ⟨c1, -⟩ := hT.2.2.2.2.2.1 k hk
      obtain ⟨kd, hkd, e0⟩ := hV.its hk 0 (by omega)
      simp only [lim] at hkd
      have x0 : f (chId 1 k + 1) 0 = nI kd := (c1 0 (by omega)).symm.trans e0
      rw [Nat.add_zero] at e0
      have k1 : (0 : Int32) ≤ nI k := nI_pos' (by omega)
      have k2 := chi_le hk hm
      have k3 : ¬ nI k < 0 := nI_pos (by omega)
      cases q : und 3 (some kd) ab
      · refine agr_find (j := 2) (v := -1000003) h ?_ (fun g hg => ?_)
        · simp [D_X6_as, S_X6_as, m_den, l0, Value.category, s_seq, s_if, s_st, s_ret, s_retz, s_retv, s_skip, s_sc, s_inc, s_call, e_c, e_li, e_lr, e_lj, e_un, e_bin, e_if, e_b, b_not, b_and, b_or, b_of, e_call, a_recv, a_snoc, a_nil, prI, prJ, prR, e_gi, e_gr, e_ai, e_ar, s_as, s_aop, s_pf, s_pfz, s_fop, l_set, l_ok, e_div, e_rem, e_len, s_tab, X6_isKind, X6_isSpot, X6_isChimney, X6_fin_2, rc_0, a1, a2, a3, a4, g_0_0, g_1_6, g_1_7, rd_5 f hn, b', em, k1, k2, rr_6 f h8, gch0 f hC, rdt0 f hC, x0, X6_isUnder _ (show kd < 7 by omega) hab, q]
        · simp [D_X7_as, S_X7_as, m_den, l0, Value.category, s_seq, s_if, s_st, s_ret, s_retz, s_retv, s_skip, s_sc, s_inc, s_call, e_c, e_li, e_lr, e_lj, e_un, e_bin, e_if, e_b, b_not, b_and, b_or, b_of, e_call, a_recv, a_snoc, a_nil, prI, prJ, prR, e_gi, e_gr, e_ai, e_ar, s_as, s_aop, s_pf, s_pfz, s_fop, l_set, l_ok, e_div, e_rem, e_len, s_tab, X7_in, j_le_9, j_le_6, j_ge_0, X7_fin_2, rc_103, a1, a2, a3, a4, e1, g_103_0, rd_104 _ (show 725 + n < 735 by omega), hg.1, b, k3, X7_isUnder g h8 (show kd < 7 by omega) hab (by rw [hg.1]; exact e0), q]
      · refine ⟨nI k, f, f, ?_, ?_, h⟩
        · simp [D_X6_as, S_X6_as, m_den, l0, Value.category, s_seq, s_if, s_st, s_ret, s_retz, s_retv, s_skip, s_sc, s_inc, s_call, e_c, e_li, e_lr, e_lj, e_un, e_bin, e_if, e_b, b_not, b_and, b_or, b_of, e_call, a_recv, a_snoc, a_nil, prI, prJ, prR, e_gi, e_gr, e_ai, e_ar, s_as, s_aop, s_pf, s_pfz, s_fop, l_set, l_ok, e_div, e_rem, e_len, s_tab, X6_isKind, X6_isSpot, X6_isChimney, rc_0, a1, a2, a3, a4, g_0_0, g_1_6, g_1_7, rd_5 f hn, b', em, k1, k2, rr_6 f h8, gch0 f hC, rdt0 f hC, x0, X6_isUnder _ (show kd < 7 by omega) hab, q]
        · simp [D_X7_as, S_X7_as, m_den, l0, Value.category, s_seq, s_if, s_st, s_ret, s_retz, s_retv, s_skip, s_sc, s_inc, s_call, e_c, e_li, e_lr, e_lj, e_un, e_bin, e_if, e_b, b_not, b_and, b_or, b_of, e_call, a_recv, a_snoc, a_nil, prI, prJ, prR, e_gi, e_gr, e_ai, e_ar, s_as, s_aop, s_pf, s_pfz, s_fop, l_set, l_ok, e_div, e_rem, e_len, s_tab, X7_in, j_le_9, j_le_6, j_ge_0, rc_103, a1, a2, a3, a4, e1, g_103_0, rd_104 _ (show 725 + n < 735 by omega), b, k3, X7_isUnder f h8 (show kd < 7 by omega) hab e0, q]
  · exact agr_find h (X6_as_no0 f hc) (fun g _ => X7_as_no0 g hc)
/-! over, touched: sets -/
def orI (n : Nat) (g : Nat → Int32) : Int32 := match n with
  | 0 => 0
  | n + 1 => orI n g ||| g n
theorem orI_congr {n : Nat} {g h : Nat → Int32} (e : ∀ i, i < n → g i = h i) : orI n g = orI n h := by
  induction n with
  | zero => rfl
  | succ n ih => show orI n g ||| g n = orI n h ||| h n; rw [ih (fun i hi => e i (by omega)), e n (by omega)]
def ovX (f : FN) (c : Nat) : Nat → Int32 := fun k => if 0 < f (chId 1 k + 2) c then 1 <<< (nI k &&& 31) else 0
theorem X6_over_W (f : FN) {m c : Nat} (hm : m ≤ 8) (hc : c < 36) (em : f 1 2 = nI m) : W_X6_over_1 [.ref 0, .int (nI c), .int 0, .int 0] (memOf f) = some (.inl ([.ref 0, .int (nI c), .int (orI m (ovX f c)), .int (nI m)], memOf f)) := by
  refine while_count (fun k => ([.ref 0, .int (nI c), .int (orI k (ovX f c)), .int (nI k)], memOf f)) m (by unfold FU; omega) (fun k hk => ?_) (fun k hk => ?_) ?_
  · have e : nI k < nI m := (nI_lt_iff (by omega) (by omega)).mpr hk
    simp [WB_X6_over_1, m_den, l0, Value.category, s_seq, s_if, s_st, s_ret, s_retz, s_retv, s_skip, s_sc, s_inc, s_call, e_c, e_li, e_lr, e_lj, e_un, e_bin, e_if, e_b, b_not, b_and, b_or, b_of, e_call, a_recv, a_snoc, a_nil, prI, prJ, prR, e_gi, e_gr, e_ai, e_ar, s_as, s_aop, s_pf, s_pfz, s_fop, l_set, l_ok, e_div, e_rem, e_len, s_tab, g_0_0, g_1_2, em, e]
  · have h8 : k < 8 := by omega
    have hC := isCh_town (b := 1) (Or.inl rfl) h8
    by_cases q : 0 < f (chId 1 k + 2) c
    · simp [WS_X6_over_1, m_den, l0, Value.category, s_seq, s_if, s_st, s_ret, s_retz, s_retv, s_skip, s_sc, s_inc, s_call, e_c, e_li, e_lr, e_lj, e_un, e_bin, e_if, e_b, b_not, b_and, b_or, b_of, e_call, a_recv, a_snoc, a_nil, prI, prJ, prR, e_gi, e_gr, e_ai, e_ar, s_as, s_aop, s_pf, s_pfz, s_fop, l_set, l_ok, e_div, e_rem, e_len, s_tab, g_0_0, g_1_7, rr_6 f h8, gch1 f hC, rda f hC hc, q, nI_next, orI, ovX]
    · simp [WS_X6_over_1, m_den, l0, Value.category, s_seq, s_if, s_st, s_ret, s_retz, s_retv, s_skip, s_sc, s_inc, s_call, e_c, e_li, e_lr, e_lj, e_un, e_bin, e_if, e_b, b_not, b_and, b_or, b_of, e_call, a_recv, a_snoc, a_nil, prI, prJ, prR, e_gi, e_gr, e_ai, e_ar, s_as, s_aop, s_pf, s_pfz, s_fop, l_set, l_ok, e_div, e_rem, e_len, s_tab, g_0_0, g_1_7, rr_6 f h8, gch1 f hC, rda f hC hc, q, nI_next, orI, ovX]
  · have e : ¬ nI m < nI m := Int32.lt_irrefl
    simp [WB_X6_over_1, m_den, l0, Value.category, s_seq, s_if, s_st, s_ret, s_retz, s_retv, s_skip, s_sc, s_inc, s_call, e_c, e_li, e_lr, e_lj, e_un, e_bin, e_if, e_b, b_not, b_and, b_or, b_of, e_call, a_recv, a_snoc, a_nil, prI, prJ, prR, e_gi, e_gr, e_ai, e_ar, s_as, s_aop, s_pf, s_pfz, s_fop, l_set, l_ok, e_div, e_rem, e_len, s_tab, g_0_0, g_1_2, em, e]
def ovR (f : FN) (c : Nat) : Nat → Int32 := fun k => if 0 < f 104 (125 + 36 * k + c) then 1 <<< (nI k &&& 31) else 0
theorem i125 (k c : Nat) : (125 : Int32) + 36 * nI k + nI c = nI (125 + 36 * k + c) := by rw [show (125 : Int32) = nI 125 from rfl, show (36 : Int32) = nI 36 from rfl, nI_m, nI_a, nI_a]
theorem i413 (k c : Nat) : (413 : Int32) + 36 * nI k + nI c = nI (413 + 36 * k + c) := by rw [show (413 : Int32) = nI 413 from rfl, show (36 : Int32) = nI 36 from rfl, nI_m, nI_a, nI_a]
theorem X7_over_W (f : FN) {m c : Nat} (hm : m ≤ 8) (hc : c < 36) (em : f 104 1 = nI m) : W_X7_over_1 [.ref 103, .int (nI c), .int 0, .int 0] (memOf f) = some (.inl ([.ref 103, .int (nI c), .int (orI m (ovR f c)), .int (nI m)], memOf f)) := by
  refine while_count (fun k => ([.ref 103, .int (nI c), .int (orI k (ovR f c)), .int (nI k)], memOf f)) m (by unfold FU; omega) (fun k hk => ?_) (fun k hk => ?_) ?_
  · have e : nI k < nI m := (nI_lt_iff (by omega) (by omega)).mpr hk
    simp [WB_X7_over_1, m_den, l0, Value.category, s_seq, s_if, s_st, s_ret, s_retz, s_retv, s_skip, s_sc, s_inc, s_call, e_c, e_li, e_lr, e_lj, e_un, e_bin, e_if, e_b, b_not, b_and, b_or, b_of, e_call, a_recv, a_snoc, a_nil, prI, prJ, prR, e_gi, e_gr, e_ai, e_ar, s_as, s_aop, s_pf, s_pfz, s_fop, l_set, l_ok, e_div, e_rem, e_len, s_tab, g_103_0, rd_104_1, em, e]
  · by_cases q : 0 < f 104 (125 + 36 * k + c)
    · simp [WS_X7_over_1, m_den, l0, Value.category, s_seq, s_if, s_st, s_ret, s_retz, s_retv, s_skip, s_sc, s_inc, s_call, e_c, e_li, e_lr, e_lj, e_un, e_bin, e_if, e_b, b_not, b_and, b_or, b_of, e_call, a_recv, a_snoc, a_nil, prI, prJ, prR, e_gi, e_gr, e_ai, e_ar, s_as, s_aop, s_pf, s_pfz, s_fop, l_set, l_ok, e_div, e_rem, e_len, s_tab, g_103_0, i125, rd_104 f (show 125 + 36 * k + c < 735 by omega), q, nI_next, orI, ovR]
    · simp [WS_X7_over_1, m_den, l0, Value.category, s_seq, s_if, s_st, s_ret, s_retz, s_retv, s_skip, s_sc, s_inc, s_call, e_c, e_li, e_lr, e_lj, e_un, e_bin, e_if, e_b, b_not, b_and, b_or, b_of, e_call, a_recv, a_snoc, a_nil, prI, prJ, prR, e_gi, e_gr, e_ai, e_ar, s_as, s_aop, s_pf, s_pfz, s_fop, l_set, l_ok, e_div, e_rem, e_len, s_tab, g_103_0, i125, rd_104 f (show 125 + 36 * k + c < 735 by omega), q, nI_next, orI, ovR]
  · have e : ¬ nI m < nI m := Int32.lt_irrefl
    simp [WB_X7_over_1, m_den, l0, Value.category, s_seq, s_if, s_st, s_ret, s_retz, s_retv, s_skip, s_sc, s_inc, s_call, e_c, e_li, e_lr, e_lj, e_un, e_bin, e_if, e_b, b_not, b_and, b_or, b_of, e_call, a_recv, a_snoc, a_nil, prI, prJ, prR, e_gi, e_gr, e_ai, e_ar, s_as, s_aop, s_pf, s_pfz, s_fop, l_set, l_ok, e_div, e_rem, e_len, s_tab, g_103_0, rd_104_1, em, e]
theorem X6_over_no0 (f : FN) {c : Int32} (h : ¬ (0 ≤ c ∧ c ≤ 35)) : D_X6_over [.ref 0, .int c] (memOf f) = some (.int (-1000001), memOf (row f 81 (upd (f 81) 0 (f 81 0 + 1)))) := by
  by_cases h1 : 0 ≤ c
  · have h2 : ¬ (c ≤ 35) := fun q => h ⟨h1, q⟩
    simp [D_X6_over, S_X6_over, m_den, l0, Value.category, s_seq, s_if, s_st, s_ret, s_retz, s_retv, s_skip, s_sc, s_inc, s_call, e_c, e_li, e_lr, e_lj, e_un, e_bin, e_if, e_b, b_not, b_and, b_or, b_of, e_call, a_recv, a_snoc, a_nil, prI, prJ, prR, e_gi, e_gr, e_ai, e_ar, s_as, s_aop, s_pf, s_pfz, s_fop, l_set, l_ok, e_div, e_rem, e_len, s_tab, X6_isCell, rc_0, X6_fin_0, h1, h2]
  · simp [D_X6_over, S_X6_over, m_den, l0, Value.category, s_seq, s_if, s_st, s_ret, s_retz, s_retv, s_skip, s_sc, s_inc, s_call, e_c, e_li, e_lr, e_lj, e_un, e_bin, e_if, e_b, b_not, b_and, b_or, b_of, e_call, a_recv, a_snoc, a_nil, prI, prJ, prR, e_gi, e_gr, e_ai, e_ar, s_as, s_aop, s_pf, s_pfz, s_fop, l_set, l_ok, e_div, e_rem, e_len, s_tab, X6_isCell, rc_0, X6_fin_0, h1]
theorem X7_over_no0 (f : FN) {c : Int32} (h : ¬ (0 ≤ c ∧ c ≤ 35)) : D_X7_over [.ref 103, .int c] (memOf f) = some (.int (-1000001), memOf (row f 107 (upd (f 107) 0 (f 107 0 + 1)))) := by
  by_cases h1 : 0 ≤ c
  · have h2 : ¬ (c ≤ 35) := fun q => h ⟨h1, q⟩
    simp [D_X7_over, S_X7_over, m_den, l0, Value.category, s_seq, s_if, s_st, s_ret, s_retz, s_retv, s_skip, s_sc, s_inc, s_call, e_c, e_li, e_lr, e_lj, e_un, e_bin, e_if, e_b, b_not, b_and, b_or, b_of, e_call, a_recv, a_snoc, a_nil, prI, prJ, prR, e_gi, e_gr, e_ai, e_ar, s_as, s_aop, s_pf, s_pfz, s_fop, l_set, l_ok, e_div, e_rem, e_len, s_tab, X7_isCell, rc_103, X7_fin_0, h1, h2]
  · simp [D_X7_over, S_X7_over, m_den, l0, Value.category, s_seq, s_if, s_st, s_ret, s_retz, s_retv, s_skip, s_sc, s_inc, s_call, e_c, e_li, e_lr, e_lj, e_un, e_bin, e_if, e_b, b_not, b_and, b_or, b_of, e_call, a_recv, a_snoc, a_nil, prI, prJ, prR, e_gi, e_gr, e_ai, e_ar, s_as, s_aop, s_pf, s_pfz, s_fop, l_set, l_ok, e_div, e_rem, e_len, s_tab, X7_isCell, rc_103, X7_fin_0, h1]
theorem agr_over {f : FN} (h : REL f) (c : Int32) : AGR D_X6_over D_X7_over [.int c] f := by
  obtain ⟨⟨m, hT, hV⟩, -⟩ := id h
  have em : f 1 2 = nI m := hT.1.2.2.2.1
  have em' : f 104 1 = nI m := hT.1.2.1.trans em
  have hm := hT.1.2.2.2.2
  by_cases hc : 0 ≤ c ∧ c ≤ 35
  · obtain ⟨n, hn, rfl⟩ := in_ex (n := 35) hc (by omega)
    have a1 := hc.1
    have a2 := hc.2
    have e : orI m (ovR f n) = orI m (ovX f n) := orI_congr (fun k hk => by unfold ovR ovX; rw [(hT.2.2.2.2.2.1 k hk).2.1 n hn])
    refine ⟨orI m (ovX f n), f, f, ?_, ?_, h⟩
    · simp [D_X6_over, S_X6_over, m_den, l0, Value.category, s_seq, s_if, s_st, s_ret, s_retz, s_retv, s_skip, s_sc, s_inc, s_call, e_c, e_li, e_lr, e_lj, e_un, e_bin, e_if, e_b, b_not, b_and, b_or, b_of, e_call, a_recv, a_snoc, a_nil, prI, prJ, prR, e_gi, e_gr, e_ai, e_ar, s_as, s_aop, s_pf, s_pfz, s_fop, l_set, l_ok, e_div, e_rem, e_len, s_tab, X6_isCell, a1, a2, X6_over_W f hm hn em]
    · simp [D_X7_over, S_X7_over, m_den, l0, Value.category, s_seq, s_if, s_st, s_ret, s_retz, s_retv, s_skip, s_sc, s_inc, s_call, e_c, e_li, e_lr, e_lj, e_un, e_bin, e_if, e_b, b_not, b_and, b_or, b_of, e_call, a_recv, a_snoc, a_nil, prI, prJ, prR, e_gi, e_gr, e_ai, e_ar, s_as, s_aop, s_pf, s_pfz, s_fop, l_set, l_ok, e_div, e_rem, e_len, s_tab, X7_isCell, a1, a2, X7_over_W f hm hn em', e]
  · exact agr_find h (X6_over_no0 f hc) (fun g _ => X7_over_no0 g hc)
def toX (f : FN) (k : Nat) : Nat → Int32 := fun c => if 0 ≤ f 2 c ∧ 0 < f (chId 1 k + 3) c then 1 <<< (f 2 c &&& 31) else 0
def toR (f : FN) (k : Nat) : Nat → Int32 := fun c => if 0 ≤ f 104 (3 + c) ∧ 0 < f 104 (413 + 36 * k + c) then 1 <<< (f 104 (3 + c) &&& 31) else 0
theorem X6_touched_W (f : FN) {n : Nat} (h8 : n < 8) (hC : isCh (chId 1 n)) : W_X6_touched_1 [.ref 0, .int (nI n), .ref (chId 1 n + 3), .int 0, .int 0] (memOf f) = some (.inl ([.ref 0, .int (nI n), .ref (chId 1 n + 3), .int (orI 36 (toX f n)), .int (nI 36)], memOf f)) := by
  refine while_count (fun k => ([.ref 0, .int (nI n), .ref (chId 1 n + 3), .int (orI k (toX f n)), .int (nI k)], memOf f)) 36 (by unfold FU; omega) (fun k hk => ?_) (fun k hk => ?_) ?_
  · have e : nI k < (36 : Int32) := lt_lit (n := 36) hk (by omega)
    simp [WB_X6_touched_1, m_den, l0, Value.category, s_seq, s_if, s_st, s_ret, s_retz, s_retv, s_skip, s_sc, s_inc, s_call, e_c, e_li, e_lr, e_lj, e_un, e_bin, e_if, e_b, b_not, b_and, b_or, b_of, e_call, a_recv, a_snoc, a_nil, prI, prJ, prR, e_gi, e_gr, e_ai, e_ar, s_as, s_aop, s_pf, s_pfz, s_fop, l_set, l_ok, e_div, e_rem, e_len, s_tab, e]
  · by_cases q1 : 0 ≤ f 2 k
    · by_cases q : 0 < f (chId 1 n + 3) k
      · simp [WS_X6_touched_1, m_den, l0, Value.category, s_seq, s_if, s_st, s_ret, s_retz, s_retv, s_skip, s_sc, s_inc, s_call, e_c, e_li, e_lr, e_lj, e_un, e_bin, e_if, e_b, b_not, b_and, b_or, b_of, e_call, a_recv, a_snoc, a_nil, prI, prJ, prR, e_gi, e_gr, e_ai, e_ar, s_as, s_aop, s_pf, s_pfz, s_fop, l_set, l_ok, e_div, e_rem, e_len, s_tab, g_0_0, g_1_3, rd_2 f hk, rds f hC hk, q1, q, nI_next, orI, toX]
      · simp [WS_X6_touched_1, m_den, l0, Value.category, s_seq, s_if, s_st, s_ret, s_retz, s_retv, s_skip, s_sc, s_inc, s_call, e_c, e_li, e_lr, e_lj, e_un, e_bin, e_if, e_b, b_not, b_and, b_or, b_of, e_call, a_recv, a_snoc, a_nil, prI, prJ, prR, e_gi, e_gr, e_ai, e_ar, s_as, s_aop, s_pf, s_pfz, s_fop, l_set, l_ok, e_div, e_rem, e_len, s_tab, g_0_0, g_1_3, rd_2 f hk, rds f hC hk, q1, q, nI_next, orI, toX]
    · simp [WS_X6_touched_1, m_den, l0, Value.category, s_seq, s_if, s_st, s_ret, s_retz, s_retv, s_skip, s_sc, s_inc, s_call, e_c, e_li, e_lr, e_lj, e_un, e_bin, e_if, e_b, b_not, b_and, b_or, b_of, e_call, a_recv, a_snoc, a_nil, prI, prJ, prR, e_gi, e_gr, e_ai, e_ar, s_as, s_aop, s_pf, s_pfz, s_fop, l_set, l_ok, e_div, e_rem, e_len, s_tab, g_0_0, g_1_3, rd_2 f hk, rds f hC hk, q1, nI_next, orI, toX]
  · have e : ¬ nI 36 < (36 : Int32) := nlt_lit (n := 36) (by omega)
    simp [WB_X6_touched_1, m_den, l0, Value.category, s_seq, s_if, s_st, s_ret, s_retz, s_retv, s_skip, s_sc, s_inc, s_call, e_c, e_li, e_lr, e_lj, e_un, e_bin, e_if, e_b, b_not, b_and, b_or, b_of, e_call, a_recv, a_snoc, a_nil, prI, prJ, prR, e_gi, e_gr, e_ai, e_ar, s_as, s_aop, s_pf, s_pfz, s_fop, l_set, l_ok, e_div, e_rem, e_len, s_tab, e]
theorem X7_touched_W (f : FN) {n : Nat} (h8 : n < 8) : W_X7_touched_1 [.ref 103, .int (nI n), .int 0, .int 0] (memOf f) = some (.inl ([.ref 103, .int (nI n), .int (orI 36 (toR f n)), .int (nI 36)], memOf f)) := by
  refine while_count (fun k => ([.ref 103, .int (nI n), .int (orI k (toR f n)), .int (nI k)], memOf f)) 36 (by unfold FU; omega) (fun k hk => ?_) (fun k hk => ?_) ?_
  · have e : nI k < (36 : Int32) := lt_lit (n := 36) hk (by omega)
    simp [WB_X7_touched_1, m_den, l0, Value.category, s_seq, s_if, s_st, s_ret, s_retz, s_retv, s_skip, s_sc, s_inc, s_call, e_c, e_li, e_lr, e_lj, e_un, e_bin, e_if, e_b, b_not, b_and, b_or, b_of, e_call, a_recv, a_snoc, a_nil, prI, prJ, prR, e_gi, e_gr, e_ai, e_ar, s_as, s_aop, s_pf, s_pfz, s_fop, l_set, l_ok, e_div, e_rem, e_len, s_tab, e]
  · have e3 : (3 : Int32) + nI k = nI (3 + k) := nI_a 3 k
    by_cases q1 : 0 ≤ f 104 (3 + k)
    · by_cases q : 0 < f 104 (413 + 36 * n + k)
      · simp [WS_X7_touched_1, m_den, l0, Value.category, s_seq, s_if, s_st, s_ret, s_retz, s_retv, s_skip, s_sc, s_inc, s_call, e_c, e_li, e_lr, e_lj, e_un, e_bin, e_if, e_b, b_not, b_and, b_or, b_of, e_call, a_recv, a_snoc, a_nil, prI, prJ, prR, e_gi, e_gr, e_ai, e_ar, s_as, s_aop, s_pf, s_pfz, s_fop, l_set, l_ok, e_div, e_rem, e_len, s_tab, g_103_0, e3, i413, rd_104 f (show 3 + k < 735 by omega), rd_104 f (show 413 + 36 * n + k < 735 by omega), q1, q, nI_next, orI, toR]
      · simp [WS_X7_touched_1, m_den, l0, Value.category, s_seq, s_if, s_st, s_ret, s_retz, s_retv, s_skip, s_sc, s_inc, s_call, e_c, e_li, e_lr, e_lj, e_un, e_bin, e_if, e_b, b_not, b_and, b_or, b_of, e_call, a_recv, a_snoc, a_nil, prI, prJ, prR, e_gi, e_gr, e_ai, e_ar, s_as, s_aop, s_pf, s_pfz, s_fop, l_set, l_ok, e_div, e_rem, e_len, s_tab, g_103_0, e3, i413, rd_104 f (show 3 + k < 735 by omega), rd_104 f (show 413 + 36 * n + k < 735 by omega), q1, q, nI_next, orI, toR]
    · simp [WS_X7_touched_1, m_den, l0, Value.category, s_seq, s_if, s_st, s_ret, s_retz, s_retv, s_skip, s_sc, s_inc, s_call, e_c, e_li, e_lr, e_lj, e_un, e_bin, e_if, e_b, b_not, b_and, b_or, b_of, e_call, a_recv, a_snoc, a_nil, prI, prJ, prR, e_gi, e_gr, e_ai, e_ar, s_as, s_aop, s_pf, s_pfz, s_fop, l_set, l_ok, e_div, e_rem, e_len, s_tab, g_103_0, e3, i413, rd_104 f (show 3 + k < 735 by omega), rd_104 f (show 413 + 36 * n + k < 735 by omega), q1, nI_next, orI, toR]
  · have e : ¬ nI 36 < (36 : Int32) := nlt_lit (n := 36) (by omega)
    simp [WB_X7_touched_1, m_den, l0, Value.category, s_seq, s_if, s_st, s_ret, s_retz, s_retv, s_skip, s_sc, s_inc, s_call, e_c, e_li, e_lr, e_lj, e_un, e_bin, e_if, e_b, b_not, b_and, b_or, b_of, e_call, a_recv, a_snoc, a_nil, prI, prJ, prR, e_gi, e_gr, e_ai, e_ar, s_as, s_aop, s_pf, s_pfz, s_fop, l_set, l_ok, e_div, e_rem, e_len, s_tab, e]
theorem X6_touched_no0 (f : FN) {c : Int32} (h : ¬ (0 ≤ c ∧ c ≤ f 1 2 - 1)) : D_X6_touched [.ref 0, .int c] (memOf f) = some (.int (-1000001), memOf (row f 81 (upd (f 81) 0 (f 81 0 + 1)))) := by
  by_cases h1 : 0 ≤ c
  · have h2 : ¬ (c ≤ f 1 2 - 1) := fun q => h ⟨h1, q⟩
    simp [D_X6_touched, S_X6_touched, m_den, l0, Value.category, s_seq, s_if, s_st, s_ret, s_retz, s_retv, s_skip, s_sc, s_inc, s_call, e_c, e_li, e_lr, e_lj, e_un, e_bin, e_if, e_b, b_not, b_and, b_or, b_of, e_call, a_recv, a_snoc, a_nil, prI, prJ, prR, e_gi, e_gr, e_ai, e_ar, s_as, s_aop, s_pf, s_pfz, s_fop, l_set, l_ok, e_div, e_rem, e_len, s_tab, X6_isChimney, rc_0, X6_fin_0, h1, h2]
  · simp [D_X6_touched, S_X6_touched, m_den, l0, Value.category, s_seq, s_if, s_st, s_ret, s_retz, s_retv, s_skip, s_sc, s_inc, s_call, e_c, e_li, e_lr, e_lj, e_un, e_bin, e_if, e_b, b_not, b_and, b_or, b_of, e_call, a_recv, a_snoc, a_nil, prI, prJ, prR, e_gi, e_gr, e_ai, e_ar, s_as, s_aop, s_pf, s_pfz, s_fop, l_set, l_ok, e_div, e_rem, e_len, s_tab, X6_isChimney, rc_0, X6_fin_0, h1]
theorem X7_touched_no0 (f : FN) {c : Int32} (h : ¬ (0 ≤ c ∧ c ≤ f 104 1 - 1)) : D_X7_touched [.ref 103, .int c] (memOf f) = some (.int (-1000001), memOf (row f 107 (upd (f 107) 0 (f 107 0 + 1)))) := by
  by_cases h1 : 0 ≤ c
  · have h2 : ¬ (c ≤ f 104 1 - 1) := fun q => h ⟨h1, q⟩
    simp [D_X7_touched, S_X7_touched, m_den, l0, Value.category, s_seq, s_if, s_st, s_ret, s_retz, s_retv, s_skip, s_sc, s_inc, s_call, e_c, e_li, e_lr, e_lj, e_un, e_bin, e_if, e_b, b_not, b_and, b_or, b_of, e_call, a_recv, a_snoc, a_nil, prI, prJ, prR, e_gi, e_gr, e_ai, e_ar, s_as, s_aop, s_pf, s_pfz, s_fop, l_set, l_ok, e_div, e_rem, e_len, s_tab, X7_isChimney, rc_103, X7_fin_0, h1, h2]
  · simp [D_X7_touched, S_X7_touched, m_den, l0, Value.category, s_seq, s_if, s_st, s_ret, s_retz, s_retv, s_skip, s_sc, s_inc, s_call, e_c, e_li, e_lr, e_lj, e_un, e_bin, e_if, e_b, b_not, b_and, b_or, b_of, e_call, a_recv, a_snoc, a_nil, prI, prJ, prR, e_gi, e_gr, e_ai, e_ar, s_as, s_aop, s_pf, s_pfz, s_fop, l_set, l_ok, e_div, e_rem, e_len, s_tab, X7_isChimney, rc_103, X7_fin_0, h1]
theorem agr_touched {f : FN} (h : REL f) (c : Int32) : AGR D_X6_touched D_X7_touched [.int c] f := by
  obtain ⟨⟨m, hT, hV⟩, -⟩ := id h
  have em : f 1 2 = nI m := hT.1.2.2.2.1
  have em' : f 104 1 = nI m := hT.1.2.1.trans em
  have hm := hT.1.2.2.2.2
  by_cases hc : 0 ≤ c ∧ c ≤ nI m - 1
  · obtain ⟨n, hn, rfl⟩ := chi_ex hc hm
    have h8 : n < 8 := by omega
    have hC := isCh_town (b := 1) (Or.inl rfl) h8
    have a1 := hc.1
    have a2 := hc.2
    have e : orI 36 (toR f n) = orI 36 (toX f n) := orI_congr (fun k hk => by unfold toR toX; rw [(hT.2.2.2.2.2.1 n hn).2.2.1 k hk, hT.2.1 k hk])
    refine ⟨orI 36 (toX f n), f, f, ?_, ?_, h⟩
    · simp [D_X6_touched, S_X6_touched, m_den, l0, Value.category, s_seq, s_if, s_st, s_ret, s_retz, s_retv, s_skip, s_sc, s_inc, s_call, e_c, e_li, e_lr, e_lj, e_un, e_bin, e_if, e_b, b_not, b_and, b_or, b_of, e_call, a_recv, a_snoc, a_nil, prI, prJ, prR, e_gi, e_gr, e_ai, e_ar, s_as, s_aop, s_pf, s_pfz, s_fop, l_set, l_ok, e_div, e_rem, e_len, s_tab, rc_0, X6_isChimney, em, a1, a2, g_0_0, g_1_7, rr_6 f h8, gch2 f hC, X6_touched_W f h8 hC]
    · simp [D_X7_touched, S_X7_touched, m_den, l0, Value.category, s_seq, s_if, s_st, s_ret, s_retz, s_retv, s_skip, s_sc, s_inc, s_call, e_c, e_li, e_lr, e_lj, e_un, e_bin, e_if, e_b, b_not, b_and, b_or, b_of, e_call, a_recv, a_snoc, a_nil, prI, prJ, prR, e_gi, e_gr, e_ai, e_ar, s_as, s_aop, s_pf, s_pfz, s_fop, l_set, l_ok, e_div, e_rem, e_len, s_tab, rc_103, X7_isChimney, em', a1, a2, X7_touched_W f h8, e]
  · exact agr_find h (X6_touched_no0 f (by rw [em]; exact hc)) (fun g hg => X7_touched_no0 g (by rw [hg.1, em']; exact hc))
