/-! a stretch of a row gets new numbers -/
def put (a n : Nat) (g σ : Nat → Int32) : Nat → Int32 := fun i => if a ≤ i ∧ i < a + n then g (i - a) else σ i
theorem put_0 (a : Nat) (g σ : Nat → Int32) : put a 0 g σ = σ := by
  funext i; unfold put; rw [if_neg (by omega)]
theorem put_succ (a n : Nat) (g σ : Nat → Int32) : upd (put a n g σ) (a + n) (g n) = put a (n + 1) g σ := by
  funext i
  unfold upd put
  by_cases h : i = a + n
  · subst h
    rw [if_pos rfl, if_pos (by omega)]
    congr 1; omega
  · rw [if_neg h]
    by_cases h2 : a ≤ i ∧ i < a + n
    · rw [if_pos h2, if_pos (by omega)]
    · rw [if_neg h2, if_neg (by omega)]
theorem put_in {a n i : Nat} (g σ : Nat → Int32) (h : i < n) : put a n g σ (a + i) = g i := by
  unfold put; rw [if_pos (by omega)]; congr 1; omega
theorem put_out {a n i : Nat} (g σ : Nat → Int32) (h : i < a ∨ a + n ≤ i) : put a n g σ i = σ i := by
  unfold put; rw [if_neg (by omega)]
theorem zer_put (n : Nat) (g : Nat → Int32) : zer n g = put 0 n (fun _ => 0) g := by
  funext i; unfold zer put
  by_cases h : i < n
  · rw [if_pos h, if_pos (by omega)]
  · rw [if_neg h, if_neg (by omega)]
/-- the books get new numbers -/
theorem TR.books {f : FN} {b m : Nat} {σ g g' : Nat → Int32} (h : TR f b σ m) (hg : ∀ o, o < 6 → g o = g' o) : TR (row f (b + 3) g) b (put 119 6 g' σ) m := by
  obtain ⟨⟨a1, a2, a3, a4, a5⟩, h2, h3, h4, h5, h6, h7⟩ := h
  refine ⟨⟨?_, ?_, ?_, ?_, a5⟩, fun c hc => ?_, fun c hc => ?_, fun c hc => ?_, fun c hc => ?_, fun k' hk' => ?_, fun k' h1 h2 => (h7 k' h1 h2).sig (fun i hi => put_out _ _ (by omega))⟩
  · rw [put_out _ _ (by omega), row_ne _ _ (by omega)]; exact a1
  · rw [put_out _ _ (by omega), row_ne _ _ (by omega)]; exact a2
  · rw [put_out _ _ (by omega), row_ne _ _ (by omega)]; exact a3
  · rw [row_ne _ _ (by omega)]; exact a4
  · rw [put_out _ _ (by omega), row_ne _ _ (by omega)]; exact h2 c hc
  · rw [put_out _ _ (by omega), row_ne _ _ (by omega)]; exact h3 c hc
  · rw [put_in _ _ hc, row_self]; exact (hg c hc).symm
  · rw [put_out _ _ (by omega), row_ne _ _ (by omega)]; exact h5 c hc
  · refine ((h6 k' hk').sig (τ := put 119 6 g' σ) (fun i hi => put_out _ _ (by omega))).congr (fun i h1 h2 => row_ne _ _ ?_)
    unfold chId at h1 h2
    omega
theorem TV.books {σ g : Nat → Int32} {m : Nat} (h : TV σ m) (hm : m ≤ 8) (hg : ∀ o, o < 6 → g o = 0) : TV (put 119 6 g σ) m := by
  obtain ⟨⟨hh, a1, a2, A, S, O, T, B, a3, a4⟩, h1, h2, h3, h4⟩ := h
  refine ⟨⟨hh, a1, by rw [put_out _ _ (by omega)]; exact a2, A, S, O, T, B, fun k hk => ?_, fun o ho => ?_⟩, fun c hc => ?_, fun c hc => ?_, fun c hc => ?_, fun k hk j hj => ?_⟩
  · obtain ⟨c1, c2, c3, c4, c5, c6, c7⟩ := a3 k hk
    refine ⟨fun c hc => ?_, fun c hc => ?_, ?_, ?_, ?_, c6, c7⟩
    · rw [put_out _ _ (by omega)]; exact c1 c hc
    · rw [put_out _ _ (by omega)]; exact c2 c hc
    · rw [put_out _ _ (by omega)]; exact c3
    · rw [put_out _ _ (by omega)]; exact c4
    · rw [put_out _ _ (by omega)]; exact c5
  · rw [put_in _ _ ho, hg o ho, Int32.toInt_zero]; omega
  · rw [put_out _ _ (by omega)]; exact h1 c hc
  · rw [put_out _ _ (by omega)]; exact h2 c hc
  · rw [put_out _ _ (by omega)]; exact h3 c hc
  · rw [put_out _ _ (by omega)]; exact h4 k hk j hj
theorem X6_strike (f : FN) : D_X6_strike [.ref 0] (memOf f) = some (.int (sumI 6 (fun o => pos0 (f 4 o))), memOf (row f 4 (zer 6 (f 4)))) := by
  simp [D_X6_strike, S_X6_strike, m_den, l0, Value.category, s_seq, s_if, s_st, s_ret, s_retz, s_retv, s_skip, s_sc, s_inc, s_call, e_c, e_li, e_lr, e_lj, e_un, e_bin, e_if, e_b, b_not, b_and, b_or, b_of, e_call, a_recv, a_snoc, a_nil, prI, prJ, prR, e_gi, e_gr, e_ai, e_ar, s_as, s_aop, s_pf, s_pfz, s_fop, l_set, l_ok, e_div, e_rem, e_len, s_tab, X6_strike_W]
theorem pos0_eq (x : Int32) : (if 0 < x then x else 0) = pos0 x := by
  unfold pos0
  by_cases h : 0 < x
  · rw [if_pos h, if_pos (Int32.le_of_lt h)]
  · rw [if_neg h]
    by_cases h2 : 0 ≤ x
    · rw [if_pos h2]; exact Int32.le_antisymm h2 (Int32.not_lt.mp h)
    · rw [if_neg h2]
theorem X7_strike_W (f : FN) : W_X7_strike_1 [.ref 103, .int 0, .int 0] (memOf f) = some (.inl ([.ref 103, .int (sumI 6 (fun o => pos0 (f 104 (119 + o)))), .int (nI 6)], memOf (row f 104 (put 119 6 (fun _ => 0) (f 104))))) := by
  have key := while_count (b := WB_X7_strike_1) (s := WS_X7_strike_1) (fun k => ([.ref 103, .int (sumI k (fun o => pos0 (f 104 (119 + o)))), .int (nI k)], memOf (row f 104 (put 119 k (fun _ => 0) (f 104))))) 6 (by unfold FU; omega) (fun k hk => ?_) (fun k hk => ?_) ?_
  · simp only [put_0, row_same] at key
    exact key
  · have e : nI k < (6 : Int32) := lt_lit (n := 6) hk (by omega)
    simp [WB_X7_strike_1, m_den, l0, Value.category, s_seq, s_if, s_st, s_ret, s_retz, s_retv, s_skip, s_sc, s_inc, s_call, e_c, e_li, e_lr, e_lj, e_un, e_bin, e_if, e_b, b_not, b_and, b_or, b_of, e_call, a_recv, a_snoc, a_nil, prI, prJ, prR, e_gi, e_gr, e_ai, e_ar, s_as, s_aop, s_pf, s_pfz, s_fop, l_set, l_ok, e_div, e_rem, e_len, s_tab, e]
  · have e0 : (119 : Int32) + nI k = nI (119 + k) := nI_a 119 k
    have e1 : row f 104 (put 119 k (fun _ => 0) (f 104)) 104 (119 + k) = f 104 (119 + k) := by rw [row_self, put_out _ _ (by omega)]
    have e2 : row (row f 104 (put 119 k (fun _ => 0) (f 104))) 104 (upd (row f 104 (put 119 k (fun _ => 0) (f 104)) 104) (119 + k) 0) = row f 104 (put 119 (k + 1) (fun _ => 0) (f 104)) := by rw [row_row, row_self, put_succ 119 k (fun _ => 0)]
    have r := rd_104 (row f 104 (put 119 k (fun _ => 0) (f 104))) (k := 119 + k) (by omega)
    have w := wr_104 (row f 104 (put 119 k (fun _ => 0) (f 104))) (k := 119 + k) (by omega) 0
    rw [e1] at r
    rw [e2] at w
    have e3 := pos0_eq (f 104 (119 + k))
    by_cases c : 0 < f 104 (119 + k)
    · rw [if_pos c] at e3
      simp [WS_X7_strike_1, m_den, l0, Value.category, s_seq, s_if, s_st, s_ret, s_retz, s_retv, s_skip, s_sc, s_inc, s_call, e_c, e_li, e_lr, e_lj, e_un, e_bin, e_if, e_b, b_not, b_and, b_or, b_of, e_call, a_recv, a_snoc, a_nil, prI, prJ, prR, e_gi, e_gr, e_ai, e_ar, s_as, s_aop, s_pf, s_pfz, s_fop, l_set, l_ok, e_div, e_rem, e_len, s_tab, g_103_0, e0, r, w, c, nI_next, sumI, ← e3]
    · rw [if_neg c] at e3
      simp [WS_X7_strike_1, m_den, l0, Value.category, s_seq, s_if, s_st, s_ret, s_retz, s_retv, s_skip, s_sc, s_inc, s_call, e_c, e_li, e_lr, e_lj, e_un, e_bin, e_if, e_b, b_not, b_and, b_or, b_of, e_call, a_recv, a_snoc, a_nil, prI, prJ, prR, e_gi, e_gr, e_ai, e_ar, s_as, s_aop, s_pf, s_pfz, s_fop, l_set, l_ok, e_div, e_rem, e_len, s_tab, g_103_0, e0, r, w, c, nI_next, sumI, ← e3]
  · have e : ¬ nI 6 < (6 : Int32) := nlt_lit (n := 6) (by omega)
    simp [WB_X7_strike_1, m_den, l0, Value.category, s_seq, s_if, s_st, s_ret, s_retz, s_retv, s_skip, s_sc, s_inc, s_call, e_c, e_li, e_lr, e_lj, e_un, e_bin, e_if, e_b, b_not, b_and, b_or, b_of, e_call, a_recv, a_snoc, a_nil, prI, prJ, prR, e_gi, e_gr, e_ai, e_ar, s_as, s_aop, s_pf, s_pfz, s_fop, l_set, l_ok, e_div, e_rem, e_len, s_tab, e]
theorem agr_strike {f : FN} (h : REL f) : AGR D_X6_strike D_X7_strike [] f := by
  obtain ⟨⟨m, hT, hV⟩, -⟩ := id h
  have hm := hT.1.2.2.2.2
  refine ⟨_, _, row (row f 4 (zer 6 (f 4))) 104 (put 119 6 (fun _ => 0) (f 104)), X6_strike f, ?_, ?_⟩
  · have e : row f 4 (zer 6 (f 4)) 104 = f 104 := row_ne _ _ (by omega)
    have e2 : sumI 6 (fun o => pos0 (f 4 o)) = sumI 6 (fun o => pos0 (f 104 (119 + o))) := sumI_congr (fun i hi => by rw [hT.2.2.2.1 i hi])
    simp [D_X7_strike, S_X7_strike, m_den, l0, Value.category, s_seq, s_if, s_st, s_ret, s_retz, s_retv, s_skip, s_sc, s_inc, s_call, e_c, e_li, e_lr, e_lj, e_un, e_bin, e_if, e_b, b_not, b_and, b_or, b_of, e_call, a_recv, a_snoc, a_nil, prI, prJ, prR, e_gi, e_gr, e_ai, e_ar, s_as, s_aop, s_pf, s_pfz, s_fop, l_set, l_ok, e_div, e_rem, e_len, s_tab, X7_strike_W, e, e2]
  · have e2 : row (row f 4 (zer 6 (f 4))) 104 (put 119 6 (fun _ => 0) (f 104)) 104 = put 119 6 (fun _ => 0) (f 104) := row_self _ _ _
    refine h.town (m := m) (fun j hj => ?_) ⟨?_, ?_⟩ ?_ ?_
    · rw [row_ne _ _ (by omega), row_ne _ _ (by omega)]
    · rw [row_ne _ _ (by omega), row_ne _ _ (by omega)]
    · rw [row_ne _ _ (by omega), row_ne _ _ (by omega)]
    · rw [e2]
      exact (hT.books (g := zer 6 (f 4)) (g' := fun _ => 0) (fun o ho => by unfold zer; rw [if_pos ho])).congr (fun j h1 h2 => row_ne _ _ (by omega))
    · rw [e2]
      exact hV.books hm (fun _ _ => rfl)
