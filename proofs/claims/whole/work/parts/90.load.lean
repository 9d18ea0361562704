/-! load; clocks -/
theorem X6_load_no (f : FN) {s : Int32} (h : ¬ (0 ≤ s ∧ s ≤ 3)) : D_X6_load [.ref 0, .int s] (memOf f) = some (.int (-1000001), memOf (row f 81 (upd (f 81) 0 (f 81 0 + 1)))) := by
  simp [D_X6_load, S_X6_load, m_den, l0, Value.category, s_seq, s_if, s_st, s_ret, s_retz, s_retv, s_skip, s_sc, s_inc, s_call, e_c, e_li, e_lr, e_lj, e_un, e_bin, e_if, e_b, b_not, b_and, b_or, b_of, e_call, a_recv, a_snoc, a_nil, prI, prJ, prR, e_gi, e_gr, e_ai, e_ar, s_as, s_aop, s_pf, s_pfz, s_fop, l_set, l_ok, e_div, e_rem, e_len, s_tab, X6_isSheet, h, rc_0, X6_fin_0]
theorem X7_load_no (f : FN) {s : Int32} (h : ¬ (0 ≤ s ∧ s ≤ 3)) : D_X7_load [.ref 103, .int s] (memOf f) = some (.int (-1000001), memOf (row f 107 (upd (f 107) 0 (f 107 0 + 1)))) := by
  simp [D_X7_load, S_X7_load, m_den, l0, Value.category, s_seq, s_if, s_st, s_ret, s_retz, s_retv, s_skip, s_sc, s_inc, s_call, e_c, e_li, e_lr, e_lj, e_un, e_bin, e_if, e_b, b_not, b_and, b_or, b_of, e_call, a_recv, a_snoc, a_nil, prI, prJ, prR, e_gi, e_gr, e_ai, e_ar, s_as, s_aop, s_pf, s_pfz, s_fop, l_set, l_ok, e_div, e_rem, e_len, s_tab, rc_103, X7_wrong_out f h, X7_fin_0]
theorem agr_load {f : FN} (h : REL f) (x : Int32) : AGR D_X6_load D_X7_load [.int x] f := by
  by_cases hs : 0 ≤ x ∧ x ≤ 3
  · obtain ⟨s, hs4, rfl⟩ := in_ex (n := 3) hs (by omega)
    obtain ⟨a1, a2⟩ := hs
    obtain ⟨⟨q1, q2⟩, ⟨n, hn, q3, q4, q5⟩, q6⟩ := h.sh hs4
    by_cases b : f 112 s = 0
    · have b' := q1.trans b
      refine agr_find (j := 5) (v := -1000006) h ?_ (fun g hg => ?_)
      · simp [D_X6_load, S_X6_load, m_den, l0, Value.category, s_seq, s_if, s_st, s_ret, s_retz, s_retv, s_skip, s_sc, s_inc, s_call, e_c, e_li, e_lr, e_lj, e_un, e_bin, e_if, e_b, b_not, b_and, b_or, b_of, e_call, a_recv, a_snoc, a_nil, prI, prJ, prR, e_gi, e_gr, e_ai, e_ar, s_as, s_aop, s_pf, s_pfz, s_fop, l_set, l_ok, e_div, e_rem, e_len, s_tab, X6_isSheet, a1, a2, rc_0, g_0_4, rr_sh f hs4, rcsh f hs4, X2_isMissing f hs4, b', X6_fin_5]
      · have b2 : g 112 s = 0 := by rw [hg.2.2.1]; exact b
        simp [D_X7_load, S_X7_load, m_den, l0, Value.category, s_seq, s_if, s_st, s_ret, s_retz, s_retv, s_skip, s_sc, s_inc, s_call, e_c, e_li, e_lr, e_lj, e_un, e_bin, e_if, e_b, b_not, b_and, b_or, b_of, e_call, a_recv, a_snoc, a_nil, prI, prJ, prR, e_gi, e_gr, e_ai, e_ar, s_as, s_aop, s_pf, s_pfz, s_fop, l_set, l_ok, e_div, e_rem, e_len, s_tab, rc_103, X7_wrong_in g hs4, b2, X7_fin_5]
    · have b' : ¬ f (95 + 2 * s) 0 = 0 := by rw [q1]; exact b
      obtain ⟨⟨m, hT, hV⟩, -⟩ := id h
      obtain ⟨⟨t0, t1, t2, -⟩, -, t3, -⟩ := id hT
      obtain ⟨N, eN⟩ : ∃ N : Nat → Int32, N = f (96 + 2 * s) := ⟨_, rfl⟩
      obtain ⟨en, een⟩ : ∃ en, en = min n 24 := ⟨_, rfl⟩
      have en24 : en ≤ 24 ∧ en ≤ n := by omega
      have mn : (if nI n ≤ (24 : Int32) then nI n else 24) = nI en := by
        by_cases c : n ≤ 24
        · have q : nI n ≤ (24 : Int32) := le_lit (n := 24) c (by omega)
          rw [if_pos q, een, Nat.min_eq_left c]
        · have q : ¬ nI n ≤ (24 : Int32) := fun q => c ((nI_le_iff (a := n) (b := 24) (by omega) (by omega)).mp q)
          rw [if_neg q, een, Nat.min_eq_right (by omega)]; rfl
      rcases first_ex (fun j => en ≤ j ∨ ¬ (0 ≤ N j ∧ N j ≤ 4)) en with ⟨K, hK, hZ, hlt⟩ | hno
      · have hlt' : ∀ j, j < K → j < en ∧ 0 ≤ N j ∧ N j ≤ 4 := fun j hj => by
          have := hlt j hj
          exact ⟨Nat.lt_of_not_le (fun q => this (Or.inl q)), Classical.byContradiction (fun q => this (Or.inr q))⟩
        obtain ⟨W, eW⟩ : ∃ W : Nat → Int32, W = fun c => if c < K then N c else f 3 c := ⟨_, rfl⟩
        -- the class
        let I : Nat → FN → Prop := fun i g => (∀ x, x ≠ 3 → g x = f x) ∧ ∀ c, c < 24 → g 3 c = if c < i then N c else f 3 c
        have cb : ∀ i g, i < en → I i g → WB_X6_load_1 [.ref 0, .int (nI s), .int (nI en), .int (nI i)] (memOf g) = some (true, memOf g) := fun i g hi _ => by
          have e : nI i < nI en := (nI_lt_iff (by omega) (by omega)).mpr hi
          simp [WB_X6_load_1, m_den, l0, Value.category, s_seq, s_if, s_st, s_ret, s_retz, s_retv, s_skip, s_sc, s_inc, s_call, e_c, e_li, e_lr, e_lj, e_un, e_bin, e_if, e_b, b_not, b_and, b_or, b_of, e_call, a_recv, a_snoc, a_nil, prI, prJ, prR, e_gi, e_gr, e_ai, e_ar, s_as, s_aop, s_pf, s_pfz, s_fop, l_set, l_ok, e_div, e_rem, e_len, s_tab, e]
        have rN : ∀ i (g : FN), i < 40 → I i g → gm_rd (memOf g) (96 + 2 * s) (nI i) = some (N i) := fun i g hi hI => by rw [rdn g hs4 hi, hI.1 _ (by omega), eN]
        have cs : ∀ i g, i < en → 0 ≤ N i ∧ N i ≤ 4 → I i g → ∃ g', WS_X6_load_1 [.ref 0, .int (nI s), .int (nI en), .int (nI i)] (memOf g) = some (.inl ([.ref 0, .int (nI s), .int (nI en), .int (nI (i + 1))], memOf g')) ∧ I (i + 1) g' := fun i g hi hb hI => by
          refine ⟨row g 3 (upd (g 3) i (N i)), ?_, fun x hx => by rw [row_ne _ _ hx]; exact hI.1 x hx, fun c hc => ?_⟩
          · simp [WS_X6_load_1, m_den, l0, Value.category, s_seq, s_if, s_st, s_ret, s_retz, s_retv, s_skip, s_sc, s_inc, s_call, e_c, e_li, e_lr, e_lj, e_un, e_bin, e_if, e_b, b_not, b_and, b_or, b_of, e_call, a_recv, a_snoc, a_nil, prI, prJ, prR, e_gi, e_gr, e_ai, e_ar, s_as, s_aop, s_pf, s_pfz, s_fop, l_set, l_ok, e_div, e_rem, e_len, s_tab, g_0_4, rr_sh g hs4, gsh2 g hs4, rN i g (by omega) hI, X6_isIn, hb.1, hb.2, g_0_0, g_1_4, wr_3 g (show i < 24 by omega), nI_next]
          · rw [row_self]
            unfold upd
            by_cases e : c = i
            · rw [if_pos e, e, if_pos (by omega)]
            · rw [if_neg e, hI.2 c hc]
              by_cases e2 : c < i
              · rw [if_pos e2, if_pos (by omega)]
              · rw [if_neg e2, if_neg (by omega)]
        have I0 : I 0 f := ⟨fun _ _ => rfl, fun c _ => by rw [if_neg (by omega)]⟩
        have CL : ∃ g, D_X6_load [.ref 0, .int (nI s)] (memOf f) = some (.int (nI K), memOf g) ∧ I K g := by
          by_cases c : K = en
          · obtain ⟨g, R1, R2⟩ := while_rel (b := WB_X6_load_1) (s := WS_X6_load_1) (fun i => [.ref 0, .int (nI s), .int (nI en), .int (nI i)]) I en (by unfold FU; omega) (fun i g hi hI => cb i g hi hI) (fun i g hi hI => cs i g hi (hlt' i (by omega)).2 hI) (fun g hI => by
              have e : ¬ nI en < nI en := Int32.lt_irrefl
              simp [WB_X6_load_1, m_den, l0, Value.category, s_seq, s_if, s_st, s_ret, s_retz, s_retv, s_skip, s_sc, s_inc, s_call, e_c, e_li, e_lr, e_lj, e_un, e_bin, e_if, e_b, b_not, b_and, b_or, b_of, e_call, a_recv, a_snoc, a_nil, prI, prJ, prR, e_gi, e_gr, e_ai, e_ar, s_as, s_aop, s_pf, s_pfz, s_fop, l_set, l_ok, e_div, e_rem, e_len, s_tab, e]) I0
            refine ⟨g, ?_, by rw [c]; exact R2⟩
            have R1' : W_X6_load_1 [.ref 0, .int (nI s), .int (nI en), .int 0] (memOf f) = some (.inl ([.ref 0, .int (nI s), .int (nI en), .int (nI en)], memOf g)) := R1
            rw [c]
            simp [D_X6_load, S_X6_load, m_den, l0, Value.category, s_seq, s_if, s_st, s_ret, s_retz, s_retv, s_skip, s_sc, s_inc, s_call, e_c, e_li, e_lr, e_lj, e_un, e_bin, e_if, e_b, b_not, b_and, b_or, b_of, e_call, a_recv, a_snoc, a_nil, prI, prJ, prR, e_gi, e_gr, e_ai, e_ar, s_as, s_aop, s_pf, s_pfz, s_fop, l_set, l_ok, e_div, e_rem, e_len, s_tab, X6_isSheet, a1, a2, rc_0, g_0_4, rr_sh f hs4, rcsh f hs4, X2_isMissing f hs4, b', gsh1 f hs4, q3, J9_min, mn, R1']
          · obtain ⟨v, g, R1, R2, R3⟩ := while_rret (b := WB_X6_load_1) (s := WS_X6_load_1) (fun i => [.ref 0, .int (nI s), .int (nI en), .int (nI i)]) I (fun v g => v = .int (nI K) ∧ I K g) K (by unfold FU; omega) (fun i g hi hI => cb i g (by omega) hI) (fun i g hi hI => cs i g (by omega) (hlt' i hi).2 hI) (fun g hI => by
              refine ⟨.int (nI K), g, ?_, rfl, hI⟩
              have e := hZ.resolve_left (by omega)
              by_cases e1 : 0 ≤ N K
              · have e2 : ¬ N K ≤ 4 := fun q => e ⟨e1, q⟩
                simp [WS_X6_load_1, m_den, l0, Value.category, s_seq, s_if, s_st, s_ret, s_retz, s_retv, s_skip, s_sc, s_inc, s_call, e_c, e_li, e_lr, e_lj, e_un, e_bin, e_if, e_b, b_not, b_and, b_or, b_of, e_call, a_recv, a_snoc, a_nil, prI, prJ, prR, e_gi, e_gr, e_ai, e_ar, s_as, s_aop, s_pf, s_pfz, s_fop, l_set, l_ok, e_div, e_rem, e_len, s_tab, g_0_4, rr_sh g hs4, gsh2 g hs4, rN K g (by omega) hI, X6_isIn, e1, e2]
              · simp [WS_X6_load_1, m_den, l0, Value.category, s_seq, s_if, s_st, s_ret, s_retz, s_retv, s_skip, s_sc, s_inc, s_call, e_c, e_li, e_lr, e_lj, e_un, e_bin, e_if, e_b, b_not, b_and, b_or, b_of, e_call, a_recv, a_snoc, a_nil, prI, prJ, prR, e_gi, e_gr, e_ai, e_ar, s_as, s_aop, s_pf, s_pfz, s_fop, l_set, l_ok, e_div, e_rem, e_len, s_tab, g_0_4, rr_sh g hs4, gsh2 g hs4, rN K g (by omega) hI, X6_isIn, e1]) I0
            subst R2
            refine ⟨g, ?_, R3⟩
            have R1' : W_X6_load_1 [.ref 0, .int (nI s), .int (nI en), .int 0] (memOf f) = some (.inr (.int (nI K), memOf g)) := R1
            simp [D_X6_load, S_X6_load, m_den, l0, Value.category, s_seq, s_if, s_st, s_ret, s_retz, s_retv, s_skip, s_sc, s_inc, s_call, e_c, e_li, e_lr, e_lj, e_un, e_bin, e_if, e_b, b_not, b_and, b_or, b_of, e_call, a_recv, a_snoc, a_nil, prI, prJ, prR, e_gi, e_gr, e_ai, e_ar, s_as, s_aop, s_pf, s_pfz, s_fop, l_set, l_ok, e_div, e_rem, e_len, s_tab, X6_isSheet, a1, a2, rc_0, g_0_4, rr_sh f hs4, rcsh f hs4, X2_isMissing f hs4, b', gsh1 f hs4, q3, J9_min, mn, R1']
        obtain ⟨g1, C1, C2, C3⟩ := CL
        -- the reference
        have e104 := C2 104 (by omega)
        let J : Nat → FN → Prop := fun i g => (∀ x, x ≠ 104 → g x = g1 x) ∧ (∀ y, ¬ (39 ≤ y ∧ y < 63) → g 104 y = f 104 y) ∧ ∀ c, c < 24 → g 104 (39 + c) = if c < i then N c else f 3 c
        have f13 : ∀ i g, J i g → g 113 s = nI n := fun i g hJ => by rw [hJ.1 113 (by omega), C2 113 (by omega)]; exact q4
        have f14 : ∀ i g j, j < 40 → J i g → g 114 (40 * s + j) = N j := fun i g j hj hJ => by rw [hJ.1 114 (by omega), C2 114 (by omega), eN]; exact (q6 j hj).symm
        obtain ⟨g2, R1, R2⟩ := while_rel (b := WB_X7_load_1) (s := WS_X7_load_1) (fun i => [.ref 103, .int (nI s), .int 0, .int (nI i)]) J K (by unfold FU; omega) (fun i g hi hJ => by
          obtain ⟨h1, h2, h3⟩ := hlt' i hi
          have e1 : nI i < nI n := (nI_lt_iff (by omega) (by omega)).mpr (by omega)
          have e2 : nI i < (24 : Int32) := lt_lit (n := 24) (by omega) (by omega)
          simp [WB_X7_load_1, m_den, l0, Value.category, s_seq, s_if, s_st, s_ret, s_retz, s_retv, s_skip, s_sc, s_inc, s_call, e_c, e_li, e_lr, e_lj, e_un, e_bin, e_if, e_b, b_not, b_and, b_or, b_of, e_call, a_recv, a_snoc, a_nil, prI, prJ, prR, e_gi, e_gr, e_ai, e_ar, s_as, s_aop, s_pf, s_pfz, s_fop, l_set, l_ok, e_div, e_rem, e_len, s_tab, g_103_18, g_103_19, rd_113 g hs4, f13 i g hJ, e1, e2, i40, rd_114 g (show 40 * s + i < 160 by omega), f14 i g i (by omega) hJ, X7_in, j_ge_0, j_le_4, h2, h3]) (fun i g hi hJ => by
          obtain ⟨h1, h2, h3⟩ := hlt' i hi
          have i39 : (39 : Int32) + nI i = nI (39 + i) := nI_a 39 i
          refine ⟨row g 104 (upd (g 104) (39 + i) (N i)), ?_, fun x hx => by rw [row_ne _ _ hx]; exact hJ.1 x hx, fun y hy => by rw [row_self, upd_ne _ _ (by omega)]; exact hJ.2.1 y hy, fun c hc => ?_⟩
          · simp [WS_X7_load_1, m_den, l0, Value.category, s_seq, s_if, s_st, s_ret, s_retz, s_retv, s_skip, s_sc, s_inc, s_call, e_c, e_li, e_lr, e_lj, e_un, e_bin, e_if, e_b, b_not, b_and, b_or, b_of, e_call, a_recv, a_snoc, a_nil, prI, prJ, prR, e_gi, e_gr, e_ai, e_ar, s_as, s_aop, s_pf, s_pfz, s_fop, l_set, l_ok, e_div, e_rem, e_len, s_tab, g_103_0, g_103_19, i39, i40, rd_114 g (show 40 * s + i < 160 by omega), f14 i g i (by omega) hJ, wr_104 g (show 39 + i < 735 by omega), nI_next]
          · rw [row_self]
            by_cases e : c = i
            · rw [e, upd_self, if_pos (by omega)]
            · rw [upd_ne _ _ (by omega), hJ.2.2 c hc]
              by_cases e2 : c < i
              · rw [if_pos e2, if_pos (by omega)]
              · rw [if_neg e2, if_neg (by omega)]) (fun g hJ => by
          by_cases c1 : K < n
          · by_cases c2 : K < 24
            · have e1 : nI K < nI n := (nI_lt_iff (by omega) (by omega)).mpr c1
              have e2 : nI K < (24 : Int32) := lt_lit (n := 24) c2 (by omega)
              have e := hZ.resolve_left (by omega)
              by_cases e3 : 0 ≤ N K
              · have e4 : ¬ N K ≤ 4 := fun q => e ⟨e3, q⟩
                simp [WB_X7_load_1, m_den, l0, Value.category, s_seq, s_if, s_st, s_ret, s_retz, s_retv, s_skip, s_sc, s_inc, s_call, e_c, e_li, e_lr, e_lj, e_un, e_bin, e_if, e_b, b_not, b_and, b_or, b_of, e_call, a_recv, a_snoc, a_nil, prI, prJ, prR, e_gi, e_gr, e_ai, e_ar, s_as, s_aop, s_pf, s_pfz, s_fop, l_set, l_ok, e_div, e_rem, e_len, s_tab, g_103_18, g_103_19, rd_113 g hs4, f13 K g hJ, e1, e2, i40, rd_114 g (show 40 * s + K < 160 by omega), f14 K g K (by omega) hJ, X7_in, j_ge_0, j_le_4, e3, e4]
              · simp [WB_X7_load_1, m_den, l0, Value.category, s_seq, s_if, s_st, s_ret, s_retz, s_retv, s_skip, s_sc, s_inc, s_call, e_c, e_li, e_lr, e_lj, e_un, e_bin, e_if, e_b, b_not, b_and, b_or, b_of, e_call, a_recv, a_snoc, a_nil, prI, prJ, prR, e_gi, e_gr, e_ai, e_ar, s_as, s_aop, s_pf, s_pfz, s_fop, l_set, l_ok, e_div, e_rem, e_len, s_tab, g_103_18, g_103_19, rd_113 g hs4, f13 K g hJ, e1, e2, i40, rd_114 g (show 40 * s + K < 160 by omega), f14 K g K (by omega) hJ, X7_in, j_ge_0, j_le_4, e3]
            · have e1 : nI K < nI n := (nI_lt_iff (by omega) (by omega)).mpr c1
              have e2 : ¬ nI K < (24 : Int32) := fun q => c2 ((nI_lt_iff (a := K) (b := 24) (by omega) (by omega)).mp q)
              simp [WB_X7_load_1, m_den, l0, Value.category, s_seq, s_if, s_st, s_ret, s_retz, s_retv, s_skip, s_sc, s_inc, s_call, e_c, e_li, e_lr, e_lj, e_un, e_bin, e_if, e_b, b_not, b_and, b_or, b_of, e_call, a_recv, a_snoc, a_nil, prI, prJ, prR, e_gi, e_gr, e_ai, e_ar, s_as, s_aop, s_pf, s_pfz, s_fop, l_set, l_ok, e_div, e_rem, e_len, s_tab, g_103_18, rd_113 g hs4, f13 K g hJ, e1, e2]
          · have e1 : ¬ nI K < nI n := fun q => c1 ((nI_lt_iff (by omega) (by omega)).mp q)
            simp [WB_X7_load_1, m_den, l0, Value.category, s_seq, s_if, s_st, s_ret, s_retz, s_retv, s_skip, s_sc, s_inc, s_call, e_c, e_li, e_lr, e_lj, e_un, e_bin, e_if, e_b, b_not, b_and, b_or, b_of, e_call, a_recv, a_snoc, a_nil, prI, prJ, prR, e_gi, e_gr, e_ai, e_ar, s_as, s_aop, s_pf, s_pfz, s_fop, l_set, l_ok, e_div, e_rem, e_len, s_tab, g_103_18, rd_113 g hs4, f13 K g hJ, e1]) (f := g1) ⟨fun _ _ => rfl, fun y _ => by rw [e104], fun c hc => by rw [if_neg (by omega), e104]; exact t3 c hc⟩
        refine ⟨nI K, g1, g2, C1, ?_, ?_⟩
        · have R1' : W_X7_load_1 [.ref 103, .int (nI s), .int 0, .int 0] (memOf g1) = some (.inl ([.ref 103, .int (nI s), .int 0, .int (nI K)], memOf g2)) := R1
          have wr := X7_wrong_in g1 hs4
          rw [C2 112 (by omega), if_neg b] at wr
          simp [D_X7_load, S_X7_load, m_den, l0, Value.category, s_seq, s_if, s_st, s_ret, s_retz, s_retv, s_skip, s_sc, s_inc, s_call, e_c, e_li, e_lr, e_lj, e_un, e_bin, e_if, e_b, b_not, b_and, b_or, b_of, e_call, a_recv, a_snoc, a_nil, prI, prJ, prR, e_gi, e_gr, e_ai, e_ar, s_as, s_aop, s_pf, s_pfz, s_fop, l_set, l_ok, e_div, e_rem, e_len, s_tab, rc_103, wr, R1']
        · refine h.winds (W := W) (fun x c1 c2 c3 => by rw [R2.1 x c3, C2 x c2]) ⟨?_, ?_⟩ ?_ (fun c hc => ?_) (fun c hc => ?_) (fun y c1 c2 => R2.2.1 y c2) (fun c hc => ?_)
          · rw [R2.1 1 (by omega), C2 1 (by omega)]
          · rw [R2.1 1 (by omega), C2 1 (by omega)]
          · rw [R2.2.1 2 (by omega), R2.1 1 (by omega), C2 1 (by omega)]; exact t2
          · rw [R2.1 3 (by omega), C3 c hc, eW]
          · rw [R2.2.2 c hc, eW]
          · rw [eW]
            simp only
            by_cases e : c < K
            · rw [if_pos e]
              obtain ⟨k, hk, ek⟩ := in_ex (n := 4) (hlt' c e).2 (by omega)
              exact ⟨k, by omega, ek⟩
            · rw [if_neg e]
              obtain ⟨w, h1, h2⟩ := hV.2.2.1 c hc
              exact ⟨w, h1, by rw [← t3 c hc]; exact h2⟩
      · exact absurd (Or.inl (Nat.le_refl en)) (hno en (Nat.le_refl en))
  · exact agr_find h (X6_load_no f hs) (fun g _ => X7_load_no g hs)
/-! clocks -/
def cbN (wd : Nat → Nat) (fr cl : Nat) : Nat → Option Nat
  | 0 => some fr
  | i + 1 => match cbN wd fr cl i with
    | none => none
    | some c => mv c (wd ((cl + i) % 24))
theorem cbN_lt {wd : Nat → Nat} {fr cl : Nat} (hf : fr < 36) : ∀ i c, cbN wd fr cl i = some c → c < 36 := by
  intro i
  induction i with
  | zero => intro c h; cases h; exact hf
  | succ i ih =>
    intro c h
    unfold cbN at h
    split at h
    · cases h
    · rename_i d hd
      exact mv_lt (ih d hd) h
theorem cbN_stay {wd : Nat → Nat} {fr cl i : Nat} (h : cbN wd fr cl i = none) : ∀ d, cbN wd fr cl (i + d) = none := by
  intro d
  induction d with
  | zero => exact h
  | succ d ih =>
    show cbN wd fr cl ((i + d) + 1) = none
    unfold cbN
    rw [ih]
theorem cbN_succ {wd : Nat → Nat} {fr cl i c : Nat} (h : cbN wd fr cl i = some c) : cbN wd fr cl (i + 1) = mv c (wd ((cl + i) % 24)) := by
  show (match cbN wd fr cl i with
    | none => none
    | some c => mv c (wd ((cl + i) % 24))) = _
  rw [h]
theorem atv_m1 {o : Option Nat} (h : ∀ c, o = some c → c < 36) : (atv o = -1) = (o = none) := by
  cases o with
  | none => exact propext ⟨fun _ => rfl, fun _ => rfl⟩
  | some c => exact propext ⟨fun q => absurd q (nI_nm1 (by have := h c rfl; omega)), fun q => by cases q⟩
theorem X5_cellBehind (f : FN) {wd : Nat → Nat} {fr cl h : Nat} (hW : HWi f wd) (hf : fr < 36) (hc : cl < 24) (hh : h ≤ 12) : D_X5_cellBehind [.ref 1, .int (nI fr), .int (nI cl), .int (nI h)] (memOf f) = some (.int (atv (cbN wd fr cl h)), memOf f) := by
  rcases first_ex (fun i => h ≤ i ∨ cbN wd fr cl i = none) h with ⟨K, hK, hZ, hlt⟩ | hno
  · have hlt' : ∀ i, i < K → i < h ∧ ∃ c, cbN wd fr cl i = some c := fun i hi => by
      have := hlt i hi
      refine ⟨Nat.lt_of_not_le (fun q => this (Or.inl q)), ?_⟩
      cases hb : cbN wd fr cl i with
      | none => exact absurd (Or.inr hb) this
      | some c => exact ⟨c, rfl⟩
    have eK : cbN wd fr cl K = cbN wd fr cl h := by
      rcases hZ with q | q
      · have : K = h := by omega
        rw [this]
      · have := cbN_stay q (h - K)
        rw [show K + (h - K) = h by omega] at this
        rw [q, this]
    have W : W_X5_cellBehind_1 [.ref 1, .int (nI fr), .int (nI cl), .int (nI h), .int (nI fr), .int 0] (memOf f) = some (.inl ([.ref 1, .int (nI fr), .int (nI cl), .int (nI h), .int (atv (cbN wd fr cl K)), .int (nI K)], memOf f)) := by
      have key := while_count (b := WB_X5_cellBehind_1) (s := WS_X5_cellBehind_1) (fun i => ([.ref 1, .int (nI fr), .int (nI cl), .int (nI h), .int (atv (cbN wd fr cl i)), .int (nI i)], memOf f)) K (by unfold FU; omega) (fun i hi => ?_) (fun i hi => ?_) ?_
      · exact key
      · obtain ⟨h1, c, h2⟩ := hlt' i hi
        have e : nI i < nI h := (nI_lt_iff (by omega) (by omega)).mpr h1
        have e2 := nI_nm1 (x := c) (by have := cbN_lt hf i c h2; omega)
        have e3 : atv (some c) = nI c := rfl
        simp only [h2, e3]
        simp [WB_X5_cellBehind_1, m_den, l0, Value.category, s_seq, s_if, s_st, s_ret, s_retz, s_retv, s_skip, s_sc, s_inc, s_call, e_c, e_li, e_lr, e_lj, e_un, e_bin, e_if, e_b, b_not, b_and, b_or, b_of, e_call, a_recv, a_snoc, a_nil, prI, prJ, prR, e_gi, e_gr, e_ai, e_ar, s_as, s_aop, s_pf, s_pfz, s_fop, l_set, l_ok, e_div, e_rem, e_len, s_tab, e, e2]
      · obtain ⟨h1, c, h2⟩ := hlt' i hi
        have c36 := cbN_lt hf i c h2
        have hm : (cl + i) % 24 < 24 := Nat.mod_lt _ (by omega)
        have r : nI cl + nI i - (nI cl + nI i) / 24 * 24 = nI ((cl + i) % 24) := by rw [nI_a]; exact rem24 (by omega)
        have r3 := rd_3 f hm
        rw [(hW _ hm).1] at r3
        have cb := X0_cellBeside (memOf f) c36 (hW _ hm).2
        have e3 : atv (some c) = nI c := rfl
        rw [cbN_succ h2]
        simp only [h2, e3]
        simp [WS_X5_cellBehind_1, m_den, l0, Value.category, s_seq, s_if, s_st, s_ret, s_retz, s_retv, s_skip, s_sc, s_inc, s_call, e_c, e_li, e_lr, e_lj, e_un, e_bin, e_if, e_b, b_not, b_and, b_or, b_of, e_call, a_recv, a_snoc, a_nil, prI, prJ, prR, e_gi, e_gr, e_ai, e_ar, s_as, s_aop, s_pf, s_pfz, s_fop, l_set, l_ok, e_div, e_rem, e_len, s_tab, r, g_1_4, r3, cb, nI_next]
      · by_cases c1 : K < h
        · have e : nI K < nI h := (nI_lt_iff (by omega) (by omega)).mpr c1
          have e2 := hZ.resolve_left (by omega)
          generalize ez : atv (cbN wd fr cl K) = z
          have e3 : (z = -1) = True := eq_true (by rw [← ez, e2]; rfl)
          simp [WB_X5_cellBehind_1, m_den, l0, Value.category, s_seq, s_if, s_st, s_ret, s_retz, s_retv, s_skip, s_sc, s_inc, s_call, e_c, e_li, e_lr, e_lj, e_un, e_bin, e_if, e_b, b_not, b_and, b_or, b_of, e_call, a_recv, a_snoc, a_nil, prI, prJ, prR, e_gi, e_gr, e_ai, e_ar, s_as, s_aop, s_pf, s_pfz, s_fop, l_set, l_ok, e_div, e_rem, e_len, s_tab, e, e3]
        · have e : ¬ nI K < nI h := fun q => c1 ((nI_lt_iff (by omega) (by omega)).mp q)
          simp [WB_X5_cellBehind_1, m_den, l0, Value.category, s_seq, s_if, s_st, s_ret, s_retz, s_retv, s_skip, s_sc, s_inc, s_call, e_c, e_li, e_lr, e_lj, e_un, e_bin, e_if, e_b, b_not, b_and, b_or, b_of, e_call, a_recv, a_snoc, a_nil, prI, prJ, prR, e_gi, e_gr, e_ai, e_ar, s_as, s_aop, s_pf, s_pfz, s_fop, l_set, l_ok, e_div, e_rem, e_len, s_tab, e]
    rw [eK] at W
    simp [D_X5_cellBehind, S_X5_cellBehind, m_den, l0, Value.category, s_seq, s_if, s_st, s_ret, s_retz, s_retv, s_skip, s_sc, s_inc, s_call, e_c, e_li, e_lr, e_lj, e_un, e_bin, e_if, e_b, b_not, b_and, b_or, b_of, e_call, a_recv, a_snoc, a_nil, prI, prJ, prR, e_gi, e_gr, e_ai, e_ar, s_as, s_aop, s_pf, s_pfz, s_fop, l_set, l_ok, e_div, e_rem, e_len, s_tab, W]
  · exact absurd (Or.inl (Nat.le_refl h)) (hno h (Nat.le_refl h))
theorem X7_clocks_W1 (f : FN) {wd : Nat → Nat} {fr cl h : Nat} (hW : HWiR (f 104) wd) (hf : fr < 36) (hc : cl < 24) (hh : h ≤ 12) (a b s : Int32) : ∃ y, W_X7_clocks_1 [.ref 103, .int a, .int b, .int (nI h), .int s, .int (nI cl), .int (nI fr), .int 0] (memOf f) = some (.inl ([.ref 103, .int a, .int b, .int (nI h), .int s, .int (nI cl), .int (atv (cbN wd fr cl h)), .int y], memOf f)) := by
  rcases first_ex (fun i => h ≤ i ∨ cbN wd fr cl i = none) h with ⟨K, hK, hZ, hlt⟩ | hno
  · have hlt' : ∀ i, i < K → i < h ∧ ∃ c, cbN wd fr cl i = some c := fun i hi => by
      have := hlt i hi
      refine ⟨Nat.lt_of_not_le (fun q => this (Or.inl q)), ?_⟩
      cases hb : cbN wd fr cl i with
      | none => exact absurd (Or.inr hb) this
      | some c => exact ⟨c, rfl⟩
    have eK : cbN wd fr cl K = cbN wd fr cl h := by
      rcases hZ with q | q
      · have : K = h := by omega
        rw [this]
      · have := cbN_stay q (h - K)
        rw [show K + (h - K) = h by omega] at this
        rw [q, this]
    rw [← eK]
    have key := while_count (b := WB_X7_clocks_1) (s := WS_X7_clocks_1) (fun i => ([.ref 103, .int a, .int b, .int (nI h), .int s, .int (nI cl), .int (atv (cbN wd fr cl i)), .int (nI i)], memOf f)) K (by unfold FU; omega) (fun i hi => ?_) (fun i hi => ?_) ?_
    · exact ⟨_, key⟩
    · obtain ⟨h1, c, h2⟩ := hlt' i hi
      have e : nI i < nI h := (nI_lt_iff (by omega) (by omega)).mpr h1
      have e2 : (0 : Int32) ≤ nI c := nI_pos' (by have := cbN_lt hf i c h2; omega)
      have e3 : atv (some c) = nI c := rfl
      simp only [h2, e3]
      simp [WB_X7_clocks_1, m_den, l0, Value.category, s_seq, s_if, s_st, s_ret, s_retz, s_retv, s_skip, s_sc, s_inc, s_call, e_c, e_li, e_lr, e_lj, e_un, e_bin, e_if, e_b, b_not, b_and, b_or, b_of, e_call, a_recv, a_snoc, a_nil, prI, prJ, prR, e_gi, e_gr, e_ai, e_ar, s_as, s_aop, s_pf, s_pfz, s_fop, l_set, l_ok, e_div, e_rem, e_len, s_tab, e, e2]
    · obtain ⟨h1, c, h2⟩ := hlt' i hi
      have c36 := cbN_lt hf i c h2
      have hm : (cl + i) % 24 < 24 := Nat.mod_lt _ (by omega)
      have r : nI cl + nI i - (nI cl + nI i) / 24 * 24 = nI ((cl + i) % 24) := by rw [nI_a]; exact rem24 (by omega)
      have i39 : (39 : Int32) + nI ((cl + i) % 24) = nI (39 + (cl + i) % 24) := nI_a 39 _
      have r3 := rd_104 f (show 39 + (cl + i) % 24 < 735 by omega)
      rw [(hW _ hm).1] at r3
      have e3 : atv (some c) = nI c := rfl
      rw [cbN_succ h2]
      simp only [h2, e3]
      have w5 := (hW _ hm).2
      have q0 : (nI (wd ((cl + i) % 24)) = 0) = (wd ((cl + i) % 24) = 0) := propext (nI_inj (b := 0) (by omega) (by omega))
      by_cases c0 : wd ((cl + i) % 24) = 0
      · have c0' := eq_true c0
        have em : atv (mv c (wd ((cl + i) % 24))) = -1 := by rw [c0]; rfl
        simp [WS_X7_clocks_1, m_den, l0, Value.category, s_seq, s_if, s_st, s_ret, s_retz, s_retv, s_skip, s_sc, s_inc, s_call, e_c, e_li, e_lr, e_lj, e_un, e_bin, e_if, e_b, b_not, b_and, b_or, b_of, e_call, a_recv, a_snoc, a_nil, prI, prJ, prR, e_gi, e_gr, e_ai, e_ar, s_as, s_aop, s_pf, s_pfz, s_fop, l_set, l_ok, e_div, e_rem, e_len, s_tab, r, i39, g_103_0, r3, q0, c0', em, nI_next]
      · have ca := X7_carried (memOf f) c36 w5 c0
        simp [WS_X7_clocks_1, m_den, l0, Value.category, s_seq, s_if, s_st, s_ret, s_retz, s_retv, s_skip, s_sc, s_inc, s_call, e_c, e_li, e_lr, e_lj, e_un, e_bin, e_if, e_b, b_not, b_and, b_or, b_of, e_call, a_recv, a_snoc, a_nil, prI, prJ, prR, e_gi, e_gr, e_ai, e_ar, s_as, s_aop, s_pf, s_pfz, s_fop, l_set, l_ok, e_div, e_rem, e_len, s_tab, r, i39, g_103_0, r3, q0, c0, ca, nI_next]
    · by_cases c1 : K < h
      · have e : nI K < nI h := (nI_lt_iff (by omega) (by omega)).mpr c1
        have e2 := hZ.resolve_left (by omega)
        generalize ez : atv (cbN wd fr cl K) = z
        have e3 : (0 ≤ z) = False := eq_false (by rw [← ez, e2]; decide)
        simp [WB_X7_clocks_1, m_den, l0, Value.category, s_seq, s_if, s_st, s_ret, s_retz, s_retv, s_skip, s_sc, s_inc, s_call, e_c, e_li, e_lr, e_lj, e_un, e_bin, e_if, e_b, b_not, b_and, b_or, b_of, e_call, a_recv, a_snoc, a_nil, prI, prJ, prR, e_gi, e_gr, e_ai, e_ar, s_as, s_aop, s_pf, s_pfz, s_fop, l_set, l_ok, e_div, e_rem, e_len, s_tab, e, e3]
      · have e : ¬ nI K < nI h := fun q => c1 ((nI_lt_iff (by omega) (by omega)).mp q)
        simp [WB_X7_clocks_1, m_den, l0, Value.category, s_seq, s_if, s_st, s_ret, s_retz, s_retv, s_skip, s_sc, s_inc, s_call, e_c, e_li, e_lr, e_lj, e_un, e_bin, e_if, e_b, b_not, b_and, b_or, b_of, e_call, a_recv, a_snoc, a_nil, prI, prJ, prR, e_gi, e_gr, e_ai, e_ar, s_as, s_aop, s_pf, s_pfz, s_fop, l_set, l_ok, e_div, e_rem, e_len, s_tab, e]
  · exact absurd (Or.inl (Nat.le_refl h)) (hno h (Nat.le_refl h))
def ckV (wd : Nat → Nat) (fr ce h cl : Nat) : Int32 := if atv (cbN wd fr cl h) = nI ce then (1 : Int32) <<< (nI cl &&& 31) else 0
theorem X6_clocks_no0 (f : FN) {a b c : Int32} (h : ¬ (0 ≤ a ∧ a ≤ f 1 2 - 1 ∧ 0 ≤ b ∧ b ≤ 35 ∧ 1 ≤ c ∧ c ≤ 12)) : D_X6_clocks [.ref 0, .int a, .int b, .int c] (memOf f) = some (.int (-1000001), memOf (row f 81 (upd (f 81) 0 (f 81 0 + 1)))) := by
  by_cases h1 : 0 ≤ a
  · by_cases h2 : a ≤ f 1 2 - 1
    · by_cases h3 : 0 ≤ b
      · by_cases h4 : b ≤ 35
        · by_cases h5 : 1 ≤ c
          · have h6 : ¬ (c ≤ 12) := fun q => h ⟨h1, h2, h3, h4, h5, q⟩
            simp [D_X6_clocks, S_X6_clocks, m_den, l0, Value.category, s_seq, s_if, s_st, s_ret, s_retz, s_retv, s_skip, s_sc, s_inc, s_call, e_c, e_li, e_lr, e_lj, e_un, e_bin, e_if, e_b, b_not, b_and, b_or, b_of, e_call, a_recv, a_snoc, a_nil, prI, prJ, prR, e_gi, e_gr, e_ai, e_ar, s_as, s_aop, s_pf, s_pfz, s_fop, l_set, l_ok, e_div, e_rem, e_len, s_tab, X6_isChimney, X6_isCell, X6_isIn, rc_0, X6_fin_0, h1, h2, h3, h4, h5, h6]
          · simp [D_X6_clocks, S_X6_clocks, m_den, l0, Value.category, s_seq, s_if, s_st, s_ret, s_retz, s_retv, s_skip, s_sc, s_inc, s_call, e_c, e_li, e_lr, e_lj, e_un, e_bin, e_if, e_b, b_not, b_and, b_or, b_of, e_call, a_recv, a_snoc, a_nil, prI, prJ, prR, e_gi, e_gr, e_ai, e_ar, s_as, s_aop, s_pf, s_pfz, s_fop, l_set, l_ok, e_div, e_rem, e_len, s_tab, X6_isChimney, X6_isCell, X6_isIn, rc_0, X6_fin_0, h1, h2, h3, h4, h5]
        · simp [D_X6_clocks, S_X6_clocks, m_den, l0, Value.category, s_seq, s_if, s_st, s_ret, s_retz, s_retv, s_skip, s_sc, s_inc, s_call, e_c, e_li, e_lr, e_lj, e_un, e_bin, e_if, e_b, b_not, b_and, b_or, b_of, e_call, a_recv, a_snoc, a_nil, prI, prJ, prR, e_gi, e_gr, e_ai, e_ar, s_as, s_aop, s_pf, s_pfz, s_fop, l_set, l_ok, e_div, e_rem, e_len, s_tab, X6_isChimney, X6_isCell, X6_isIn, rc_0, X6_fin_0, h1, h2, h3, h4]
      · simp [D_X6_clocks, S_X6_clocks, m_den, l0, Value.category, s_seq, s_if, s_st, s_ret, s_retz, s_retv, s_skip, s_sc, s_inc, s_call, e_c, e_li, e_lr, e_lj, e_un, e_bin, e_if, e_b, b_not, b_and, b_or, b_of, e_call, a_recv, a_snoc, a_nil, prI, prJ, prR, e_gi, e_gr, e_ai, e_ar, s_as, s_aop, s_pf, s_pfz, s_fop, l_set, l_ok, e_div, e_rem, e_len, s_tab, X6_isChimney, X6_isCell, X6_isIn, rc_0, X6_fin_0, h1, h2, h3]
    · simp [D_X6_clocks, S_X6_clocks, m_den, l0, Value.category, s_seq, s_if, s_st, s_ret, s_retz, s_retv, s_skip, s_sc, s_inc, s_call, e_c, e_li, e_lr, e_lj, e_un, e_bin, e_if, e_b, b_not, b_and, b_or, b_of, e_call, a_recv, a_snoc, a_nil, prI, prJ, prR, e_gi, e_gr, e_ai, e_ar, s_as, s_aop, s_pf, s_pfz, s_fop, l_set, l_ok, e_div, e_rem, e_len, s_tab, X6_isChimney, X6_isCell, X6_isIn, rc_0, X6_fin_0, h1, h2]
  · simp [D_X6_clocks, S_X6_clocks, m_den, l0, Value.category, s_seq, s_if, s_st, s_ret, s_retz, s_retv, s_skip, s_sc, s_inc, s_call, e_c, e_li, e_lr, e_lj, e_un, e_bin, e_if, e_b, b_not, b_and, b_or, b_of, e_call, a_recv, a_snoc, a_nil, prI, prJ, prR, e_gi, e_gr, e_ai, e_ar, s_as, s_aop, s_pf, s_pfz, s_fop, l_set, l_ok, e_div, e_rem, e_len, s_tab, X6_isChimney, X6_isCell, X6_isIn, rc_0, X6_fin_0, h1]
theorem X7_clocks_no0 (f : FN) {a b c : Int32} (h : ¬ (0 ≤ a ∧ a ≤ f 104 1 - 1 ∧ 0 ≤ b ∧ b ≤ 35 ∧ 1 ≤ c ∧ c ≤ 12)) : D_X7_clocks [.ref 103, .int a, .int b, .int c] (memOf f) = some (.int (-1000001), memOf (row f 107 (upd (f 107) 0 (f 107 0 + 1)))) := by
  by_cases h1 : 0 ≤ a
  · by_cases h2 : a ≤ f 104 1 - 1
    · by_cases h3 : 0 ≤ b
      · by_cases h4 : b ≤ 35
        · by_cases h5 : 1 ≤ c
          · have h6 : ¬ (c ≤ 12) := fun q => h ⟨h1, h2, h3, h4, h5, q⟩
            simp [D_X7_clocks, S_X7_clocks, m_den, l0, Value.category, s_seq, s_if, s_st, s_ret, s_retz, s_retv, s_skip, s_sc, s_inc, s_call, e_c, e_li, e_lr, e_lj, e_un, e_bin, e_if, e_b, b_not, b_and, b_or, b_of, e_call, a_recv, a_snoc, a_nil, prI, prJ, prR, e_gi, e_gr, e_ai, e_ar, s_as, s_aop, s_pf, s_pfz, s_fop, l_set, l_ok, e_div, e_rem, e_len, s_tab, X7_isChimney, X7_isCell, X7_in, j_le_12, j_ge_1, rc_103, X7_fin_0, h1, h2, h3, h4, h5, h6]
          · simp [D_X7_clocks, S_X7_clocks, m_den, l0, Value.category, s_seq, s_if, s_st, s_ret, s_retz, s_retv, s_skip, s_sc, s_inc, s_call, e_c, e_li, e_lr, e_lj, e_un, e_bin, e_if, e_b, b_not, b_and, b_or, b_of, e_call, a_recv, a_snoc, a_nil, prI, prJ, prR, e_gi, e_gr, e_ai, e_ar, s_as, s_aop, s_pf, s_pfz, s_fop, l_set, l_ok, e_div, e_rem, e_len, s_tab, X7_isChimney, X7_isCell, X7_in, j_le_12, j_ge_1, rc_103, X7_fin_0, h1, h2, h3, h4, h5]
        · simp [D_X7_clocks, S_X7_clocks, m_den, l0, Value.category, s_seq, s_if, s_st, s_ret, s_retz, s_retv, s_skip, s_sc, s_inc, s_call, e_c, e_li, e_lr, e_lj, e_un, e_bin, e_if, e_b, b_not, b_and, b_or, b_of, e_call, a_recv, a_snoc, a_nil, prI, prJ, prR, e_gi, e_gr, e_ai, e_ar, s_as, s_aop, s_pf, s_pfz, s_fop, l_set, l_ok, e_div, e_rem, e_len, s_tab, X7_isChimney, X7_isCell, X7_in, j_le_12, j_ge_1, rc_103, X7_fin_0, h1, h2, h3, h4]
      · simp [D_X7_clocks, S_X7_clocks, m_den, l0, Value.category, s_seq, s_if, s_st, s_ret, s_retz, s_retv, s_skip, s_sc, s_inc, s_call, e_c, e_li, e_lr, e_lj, e_un, e_bin, e_if, e_b, b_not, b_and, b_or, b_of, e_call, a_recv, a_snoc, a_nil, prI, prJ, prR, e_gi, e_gr, e_ai, e_ar, s_as, s_aop, s_pf, s_pfz, s_fop, l_set, l_ok, e_div, e_rem, e_len, s_tab, X7_isChimney, X7_isCell, X7_in, j_le_12, j_ge_1, rc_103, X7_fin_0, h1, h2, h3]
    · simp [D_X7_clocks, S_X7_clocks, m_den, l0, Value.category, s_seq, s_if, s_st, s_ret, s_retz, s_retv, s_skip, s_sc, s_inc, s_call, e_c, e_li, e_lr, e_lj, e_un, e_bin, e_if, e_b, b_not, b_and, b_or, b_of, e_call, a_recv, a_snoc, a_nil, prI, prJ, prR, e_gi, e_gr, e_ai, e_ar, s_as, s_aop, s_pf, s_pfz, s_fop, l_set, l_ok, e_div, e_rem, e_len, s_tab, X7_isChimney, X7_isCell, X7_in, j_le_12, j_ge_1, rc_103, X7_fin_0, h1, h2]
  · simp [D_X7_clocks, S_X7_clocks, m_den, l0, Value.category, s_seq, s_if, s_st, s_ret, s_retz, s_retv, s_skip, s_sc, s_inc, s_call, e_c, e_li, e_lr, e_lj, e_un, e_bin, e_if, e_b, b_not, b_and, b_or, b_of, e_call, a_recv, a_snoc, a_nil, prI, prJ, prR, e_gi, e_gr, e_ai, e_ar, s_as, s_aop, s_pf, s_pfz, s_fop, l_set, l_ok, e_div, e_rem, e_len, s_tab, X7_isChimney, X7_isCell, X7_in, j_le_12, j_ge_1, rc_103, X7_fin_0, h1]
theorem agr_clocks {f : FN} (h : REL f) (a b c : Int32) : AGR D_X6_clocks D_X7_clocks [.int a, .int b, .int c] f := by
  obtain ⟨⟨m, hT, hV⟩, -⟩ := id h
  obtain ⟨TRS, ro, wd, Q, bo, hh, w⟩ := TW.ex hT hV
  obtain ⟨⟨b1, b2, b3, b4⟩, hS, sp, ro', wd', bk', tk, bn⟩ := id w
  have em' := hS.1.1
  have m8 := hS.1.2
  by_cases hc : 0 ≤ a ∧ a ≤ nI m - 1 ∧ 0 ≤ b ∧ b ≤ 35 ∧ 1 ≤ c ∧ c ≤ 12
  · obtain ⟨k, hk, rfl⟩ := chi_ex ⟨hc.1, hc.2.1⟩ m8
    obtain ⟨ce, hce, rfl⟩ := in_ex (n := 35) ⟨hc.2.2.1, hc.2.2.2.1⟩ (by omega)
    obtain ⟨a1, a2, a3, a4, a5, a6⟩ := hc
    obtain ⟨n, hn, rfl⟩ := in_ex (n := 12) ⟨Int32.le_trans (by decide) a5, a6⟩ (by omega)
    have hC := isCh_town (b := 1) (c := k) (Or.inl rfl) (by omega)
    have t2 := (sp k hk).2.2 2 (by omega)
    have f36 : TRS k 2 < 36 := by have := (hS.2.1 k hk).2 2 (by omega); simp only [lim] at this; omega
    have W6 : W_X6_clocks_1 [.ref 0, .int (nI k), .int (nI ce), .int (nI n), .int (nI (TRS k 2)), .int 0, .int 0] (memOf f) = some (.inl ([.ref 0, .int (nI k), .int (nI ce), .int (nI n), .int (nI (TRS k 2)), .int (orI 24 (ckV wd (TRS k 2) ce n)), .int (nI 24)], memOf f)) := by
      have key := while_count (b := WB_X6_clocks_1) (s := WS_X6_clocks_1) (fun i => ([.ref 0, .int (nI k), .int (nI ce), .int (nI n), .int (nI (TRS k 2)), .int (orI i (ckV wd (TRS k 2) ce n)), .int (nI i)], memOf f)) 24 (by unfold FU; omega) (fun i hi => ?_) (fun i hi => ?_) ?_
      · exact key
      · have e : nI i < (24 : Int32) := lt_lit (n := 24) hi (by omega)
        simp [WB_X6_clocks_1, m_den, l0, Value.category, s_seq, s_if, s_st, s_ret, s_retz, s_retv, s_skip, s_sc, s_inc, s_call, e_c, e_li, e_lr, e_lj, e_un, e_bin, e_if, e_b, b_not, b_and, b_or, b_of, e_call, a_recv, a_snoc, a_nil, prI, prJ, prR, e_gi, e_gr, e_ai, e_ar, s_as, s_aop, s_pf, s_pfz, s_fop, l_set, l_ok, e_div, e_rem, e_len, s_tab, e]
      · have cb := X5_cellBehind f wd' f36 hi (show n ≤ 12 by omega)
        generalize ez : atv (cbN wd (TRS k 2) i n) = z at cb
        by_cases q : z = nI ce
        · have q' := eq_true q
          have ev : ckV wd (TRS k 2) ce n i = (1 : Int32) <<< (nI i &&& 31) := by unfold ckV; rw [ez, if_pos q]
          simp [WS_X6_clocks_1, m_den, l0, Value.category, s_seq, s_if, s_st, s_ret, s_retz, s_retv, s_skip, s_sc, s_inc, s_call, e_c, e_li, e_lr, e_lj, e_un, e_bin, e_if, e_b, b_not, b_and, b_or, b_of, e_call, a_recv, a_snoc, a_nil, prI, prJ, prR, e_gi, e_gr, e_ai, e_ar, s_as, s_aop, s_pf, s_pfz, s_fop, l_set, l_ok, e_div, e_rem, e_len, s_tab, g_0_0, rc_1, cb, q', orI, ev, nI_next]
        · have ev : ckV wd (TRS k 2) ce n i = 0 := by unfold ckV; rw [ez, if_neg q]
          simp [WS_X6_clocks_1, m_den, l0, Value.category, s_seq, s_if, s_st, s_ret, s_retz, s_retv, s_skip, s_sc, s_inc, s_call, e_c, e_li, e_lr, e_lj, e_un, e_bin, e_if, e_b, b_not, b_and, b_or, b_of, e_call, a_recv, a_snoc, a_nil, prI, prJ, prR, e_gi, e_gr, e_ai, e_ar, s_as, s_aop, s_pf, s_pfz, s_fop, l_set, l_ok, e_div, e_rem, e_len, s_tab, g_0_0, rc_1, cb, q, orI, ev, nI_next]
      · have e : ¬ nI 24 < (24 : Int32) := nlt_lit (n := 24) (by omega)
        simp [WB_X6_clocks_1, m_den, l0, Value.category, s_seq, s_if, s_st, s_ret, s_retz, s_retv, s_skip, s_sc, s_inc, s_call, e_c, e_li, e_lr, e_lj, e_un, e_bin, e_if, e_b, b_not, b_and, b_or, b_of, e_call, a_recv, a_snoc, a_nil, prI, prJ, prR, e_gi, e_gr, e_ai, e_ar, s_as, s_aop, s_pf, s_pfz, s_fop, l_set, l_ok, e_div, e_rem, e_len, s_tab, e]
    have W7 : W_X7_clocks_2 [.ref 103, .int (nI k), .int (nI ce), .int (nI n), .int 0, .int 0] (memOf f) = some (.inl ([.ref 103, .int (nI k), .int (nI ce), .int (nI n), .int (orI 24 (ckV wd (TRS k 2) ce n)), .int (nI 24)], memOf f)) := by
      have key := while_count (b := WB_X7_clocks_2) (s := WS_X7_clocks_2) (fun i => ([.ref 103, .int (nI k), .int (nI ce), .int (nI n), .int (orI i (ckV wd (TRS k 2) ce n)), .int (nI i)], memOf f)) 24 (by unfold FU; omega) (fun i hi => ?_) (fun i hi => ?_) ?_
      · exact key
      · have e : nI i < (24 : Int32) := lt_lit (n := 24) hi (by omega)
        simp [WB_X7_clocks_2, m_den, l0, Value.category, s_seq, s_if, s_st, s_ret, s_retz, s_retv, s_skip, s_sc, s_inc, s_call, e_c, e_li, e_lr, e_lj, e_un, e_bin, e_if, e_b, b_not, b_and, b_or, b_of, e_call, a_recv, a_snoc, a_nil, prI, prJ, prR, e_gi, e_gr, e_ai, e_ar, s_as, s_aop, s_pf, s_pfz, s_fop, l_set, l_ok, e_div, e_rem, e_len, s_tab, e]
      · obtain ⟨y, cb⟩ := X7_clocks_W1 f hS.2.2.2 f36 hi (show n ≤ 12 by omega) (nI k) (nI ce) (orI i (ckV wd (TRS k 2) ce n))
        have it := X7_its2 f (k := k) (by omega)
        rw [(hS.2.1 k hk).1 2 (by omega)] at it
        generalize ez : atv (cbN wd (TRS k 2) i n) = z at cb
        by_cases q : z = nI ce
        · have q' := eq_true q
          have ev : ckV wd (TRS k 2) ce n i = (1 : Int32) <<< (nI i &&& 31) := by unfold ckV; rw [ez, if_pos q]
          simp [WS_X7_clocks_2, m_den, l0, Value.category, s_seq, s_if, s_st, s_ret, s_retz, s_retv, s_skip, s_sc, s_inc, s_call, e_c, e_li, e_lr, e_lj, e_un, e_bin, e_if, e_b, b_not, b_and, b_or, b_of, e_call, a_recv, a_snoc, a_nil, prI, prJ, prR, e_gi, e_gr, e_ai, e_ar, s_as, s_aop, s_pf, s_pfz, s_fop, l_set, l_ok, e_div, e_rem, e_len, s_tab, rc_103, it, cb, q', orI, ev, nI_next]
        · have ev : ckV wd (TRS k 2) ce n i = 0 := by unfold ckV; rw [ez, if_neg q]
          simp [WS_X7_clocks_2, m_den, l0, Value.category, s_seq, s_if, s_st, s_ret, s_retz, s_retv, s_skip, s_sc, s_inc, s_call, e_c, e_li, e_lr, e_lj, e_un, e_bin, e_if, e_b, b_not, b_and, b_or, b_of, e_call, a_recv, a_snoc, a_nil, prI, prJ, prR, e_gi, e_gr, e_ai, e_ar, s_as, s_aop, s_pf, s_pfz, s_fop, l_set, l_ok, e_div, e_rem, e_len, s_tab, rc_103, it, cb, q, orI, ev, nI_next]
      · have e : ¬ nI 24 < (24 : Int32) := nlt_lit (n := 24) (by omega)
        simp [WB_X7_clocks_2, m_den, l0, Value.category, s_seq, s_if, s_st, s_ret, s_retz, s_retv, s_skip, s_sc, s_inc, s_call, e_c, e_li, e_lr, e_lj, e_un, e_bin, e_if, e_b, b_not, b_and, b_or, b_of, e_call, a_recv, a_snoc, a_nil, prI, prJ, prR, e_gi, e_gr, e_ai, e_ar, s_as, s_aop, s_pf, s_pfz, s_fop, l_set, l_ok, e_div, e_rem, e_len, s_tab, e]
    refine ⟨orI 24 (ckV wd (TRS k 2) ce n), f, f, ?_, ?_, h⟩
    · simp [D_X6_clocks, S_X6_clocks, m_den, l0, Value.category, s_seq, s_if, s_st, s_ret, s_retz, s_retv, s_skip, s_sc, s_inc, s_call, e_c, e_li, e_lr, e_lj, e_un, e_bin, e_if, e_b, b_not, b_and, b_or, b_of, e_call, a_recv, a_snoc, a_nil, prI, prJ, prR, e_gi, e_gr, e_ai, e_ar, s_as, s_aop, s_pf, s_pfz, s_fop, l_set, l_ok, e_div, e_rem, e_len, s_tab, X6_isChimney, X6_isCell, X6_isIn, b4, a1, a2, a3, a4, a5, a6, rc_0, g_0_0, g_1_7, rr_6 f (show k < 8 by omega), gch0 f hC, rdt2 f hC, t2, W6]
    · simp [D_X7_clocks, S_X7_clocks, m_den, l0, Value.category, s_seq, s_if, s_st, s_ret, s_retz, s_retv, s_skip, s_sc, s_inc, s_call, e_c, e_li, e_lr, e_lj, e_un, e_bin, e_if, e_b, b_not, b_and, b_or, b_of, e_call, a_recv, a_snoc, a_nil, prI, prJ, prR, e_gi, e_gr, e_ai, e_ar, s_as, s_aop, s_pf, s_pfz, s_fop, l_set, l_ok, e_div, e_rem, e_len, s_tab, X7_isChimney, X7_isCell, X7_in, j_le_12, j_ge_1, em', a1, a2, a3, a4, a5, a6, rc_103, W7]
  · exact agr_find h (X6_clocks_no0 f (by rw [b4]; exact hc)) (fun g hg => X7_clocks_no0 g (by rw [hg.1, em']; exact hc))
