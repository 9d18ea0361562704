theorem tx_loop (g3 f : FN) {T : Nat → Nat} {t m N : Nat} (h : cuR g3 T t (itR T t (tq T t m 0).1 (tq T t m 0).2).1 (itR T t (tq T t m 0).1 (tq T t m 0).2).2) (ht : t ≤ 120) (em : f 104 1 = nI m) (hm : m ≤ 8) (hN : N ≤ 120) (h1 : ¬ tGo T t m N) (h2 : ∀ i, i < N → tGo T t m i) (h5 : ∀ y, 735 ≤ y → g3 104 y = f 104 y) (h4 : (itR T t (tq T t m 0).1 (tq T t m 0).2).2 = false → g3 104 = tσ T t m (f 104) 1) : ∃ (n : Nat) (g : FN), W_X7_text_1 [.ref 103, .int 1] (memOf g3) = some (.inl ([.ref 103, .int (nI n)], memOf g)) ∧ (∀ x, x ≠ 103 → x ≠ 104 → g x = g3 x) ∧ (∀ y, ¬ (13 ≤ y ∧ y ≤ 16) → g 103 y = g3 103 y) ∧ cuR g T t (tI T t m N).1 (tB T t m N) ∧ (∀ y, 735 ≤ y → g 104 y = f 104 y) ∧ (tB T t m N = false → n = N + 1 ∧ g 104 = tσ T t m (f 104) (N + 1)) := by
  have goR : ∀ i, i < N → itR T t (tq T t m i).1 (tq T t m i).2 = tI T t m i := fun i hi => by
    rcases itR_of T t (tq T t m i).1 (tq T t m i).2 with c | ⟨-, c, -⟩
    · exact c
    · have := (h2 i hi).2
      unfold tI at this
      omega
  have okI : ∀ i, i < N → (tI T t m i).2 = false := fun i hi => (h2 i hi).1
  -- one round
  have stp : ∀ (i : Nat) (g : FN), i < N → ((∀ x, x ≠ 103 → x ≠ 104 → g x = g3 x) ∧ (∀ y, ¬ (13 ≤ y ∧ y ≤ 16) → g 103 y = g3 103 y) ∧ cuR g T t (itR T t (tq T t m i).1 (tq T t m i).2).1 (itR T t (tq T t m i).1 (tq T t m i).2).2 ∧ (∀ y, 735 ≤ y → g 104 y = f 104 y) ∧ ((itR T t (tq T t m i).1 (tq T t m i).2).2 = false → g 104 = tσ T t m (f 104) (i + 1))) → ∃ g', WS_X7_text_1 [.ref 103, .int (nI (i + 1))] (memOf g) = some (.inl ([.ref 103, .int (nI (i + 1 + 1))], memOf g')) ∧ (∀ x, x ≠ 103 → x ≠ 104 → g' x = g3 x) ∧ (∀ y, ¬ (13 ≤ y ∧ y ≤ 16) → g' 103 y = g3 103 y) ∧ cuR g' T t (itR T t (tq T t m (i + 1)).1 (tq T t m (i + 1)).2).1 (itR T t (tq T t m (i + 1)).1 (tq T t m (i + 1)).2).2 ∧ (∀ y, 735 ≤ y → g' 104 y = f 104 y) ∧ ((itR T t (tq T t m (i + 1)).1 (tq T t m (i + 1)).2).2 = false → g' 104 = tσ T t m (f 104) (i + 1 + 1)) := by
    intro i g hi hI
    obtain ⟨I1, I2, I3, I4, I5⟩ := hI
    rw [goR i hi] at I3 I5
    have I5' := I5 (okI i hi)
    rw [okI i hi] at I3
    obtain ⟨g1, A1, A2, A3, A4⟩ := tx_body g I3 (i + 1)
    rw [decide_eq_true (h2 i hi).2, nd_tf] at A3
    have A3' : cuR g1 T t (tq T t m (i + 1)).1 false := A3
    have e1 : g1 104 1 = nI (tq T t m (i + 1)).2 := by
      rw [A1 104 (by omega), I5']
      exact tσ_m em (i + 1) (fun j hj => okI j (by omega))
    obtain ⟨g2, B1, B2, B3, B4, B5, B6⟩ := X7_item g1 A3' ht (tq_m hm (i + 1) (fun j hj => h2 j (by omega))) e1
    refine ⟨g2, A4 g2 B1, fun x c1 c2 => by rw [B2 x c1 c2, A1 x c1]; exact I1 x c1 c2, fun y hy => by rw [B3 y hy, A2 y hy]; exact I2 y hy, B4, fun y hy => by rw [B5 y hy, A1 104 (by omega)]; exact I4 y hy, fun c => ?_⟩
    rw [B6 c, A1 104 (by omega), I5']
    rfl
  have bt : ∀ (i : Nat) (g : FN), i < N → cuR g T t (itR T t (tq T t m i).1 (tq T t m i).2).1 (itR T t (tq T t m i).1 (tq T t m i).2).2 → WB_X7_text_1 [.ref 103, .int (nI (i + 1))] (memOf g) = some (true, memOf g) := fun i g hi hc => by
    have := tx_cond g hc (nI (i + 1))
    rw [goR i hi] at this
    rw [decide_eq_true (show (tI T t m i).2 = false ∧ tK T t (tI T t m i).1 ≠ 0 from ⟨okI i hi, by rw [(h2 i hi).2]; omega⟩)] at this
    exact this
  have I0 : (∀ x, x ≠ 103 → x ≠ 104 → g3 x = g3 x) ∧ (∀ y, ¬ (13 ≤ y ∧ y ≤ 16) → g3 103 y = g3 103 y) ∧ cuR g3 T t (itR T t (tq T t m 0).1 (tq T t m 0).2).1 (itR T t (tq T t m 0).1 (tq T t m 0).2).2 ∧ (∀ y, 735 ≤ y → g3 104 y = f 104 y) ∧ ((itR T t (tq T t m 0).1 (tq T t m 0).2).2 = false → g3 104 = tσ T t m (f 104) (0 + 1)) := ⟨fun _ _ _ => rfl, fun _ _ => rfl, h, h5, h4⟩
  by_cases cc : (itR T t (tq T t m N).1 (tq T t m N).2).2 = false ∧ tK T t (itR T t (tq T t m N).1 (tq T t m N).2).1 ≠ 0
  · -- something else than a sign stands behind the last item
    have eR : itR T t (tq T t m N).1 (tq T t m N).2 = tI T t m N := by
      rcases itR_of T t (tq T t m N).1 (tq T t m N).2 with c | ⟨-, -, c⟩
      · exact c
      · rw [c] at cc; exact tf_no cc.1
    rw [eR] at cc
    have n3 : ¬ tK T t (tI T t m N).1 = 3 := fun c => h1 ⟨cc.1, c⟩
    have eB : tB T t m N = true := by unfold tB; rw [decide_eq_true cc.2, Bool.or_true]
    obtain ⟨g, F1, F2, F3, F4, F5⟩ := while_fin (b := WB_X7_text_1) (s := WS_X7_text_1) (fun i => [.ref 103, .int (nI (i + 1))]) (fun i g => (∀ x, x ≠ 103 → x ≠ 104 → g x = g3 x) ∧ (∀ y, ¬ (13 ≤ y ∧ y ≤ 16) → g 103 y = g3 103 y) ∧ cuR g T t (itR T t (tq T t m i).1 (tq T t m i).2).1 (itR T t (tq T t m i).1 (tq T t m i).2).2 ∧ (∀ y, 735 ≤ y → g 104 y = f 104 y) ∧ ((itR T t (tq T t m i).1 (tq T t m i).2).2 = false → g 104 = tσ T t m (f 104) (i + 1))) (fun g => (∀ x, x ≠ 103 → x ≠ 104 → g x = g3 x) ∧ (∀ y, ¬ (13 ≤ y ∧ y ≤ 16) → g 103 y = g3 103 y) ∧ cuR g T t (tI T t m N).1 true ∧ ∀ y, 735 ≤ y → g 104 y = f 104 y) [.ref 103, .int (nI (N + 1 + 1))] N (by unfold FU; omega)
      (fun i g hi hI => by
        by_cases c : i = N
        · subst c
          have := tx_cond g hI.2.2.1 (nI (i + 1))
          rw [eR, decide_eq_true cc] at this
          exact this
        · exact bt i g (by omega) hI.2.2.1)
      stp
      (fun g hI => by
        obtain ⟨I1, I2, I3, I4, -⟩ := hI
        rw [eR, cc.1] at I3
        obtain ⟨g1, A1, A2, A3, A4⟩ := tx_body g I3 (N + 1)
        rw [decide_eq_false n3, nd_ff] at A3
        obtain ⟨g2, B1, B2, B3, B4, B5⟩ := X7_item_wr g1 (p := (tI T t m N).1) A3 ht
        refine ⟨g2, A4 g2 B1, ⟨fun x c1 c2 => by rw [B2 x c1 c2, A1 x c1]; exact I1 x c1 c2, fun y hy => by rw [B3 y hy, A2 y hy]; exact I2 y hy, B4, fun y hy => by rw [B5 y hy, A1 104 (by omega)]; exact I4 y hy⟩, ?_⟩
        have := tx_cond g2 (q := ((tI T t m N).1, true)) B4 (nI (N + 1 + 1))
        rw [decide_eq_false (fun c => tf_no c.1)] at this
        exact this) (f := g3) I0
    exact ⟨N + 1 + 1, g, F1, F2, F3, by rw [eB]; exact F4, F5, fun c => absurd (c.symm.trans eB) (by decide)⟩
  · obtain ⟨g, F1, F2, F3, F4, F5, F6⟩ := while_rel (b := WB_X7_text_1) (s := WS_X7_text_1) (fun i => [.ref 103, .int (nI (i + 1))]) (fun i g => (∀ x, x ≠ 103 → x ≠ 104 → g x = g3 x) ∧ (∀ y, ¬ (13 ≤ y ∧ y ≤ 16) → g 103 y = g3 103 y) ∧ cuR g T t (itR T t (tq T t m i).1 (tq T t m i).2).1 (itR T t (tq T t m i).1 (tq T t m i).2).2 ∧ (∀ y, 735 ≤ y → g 104 y = f 104 y) ∧ ((itR T t (tq T t m i).1 (tq T t m i).2).2 = false → g 104 = tσ T t m (f 104) (i + 1))) N (by unfold FU; omega) (fun i g hi hI => bt i g hi hI.2.2.1) stp (fun g hI => by
        have := tx_cond g hI.2.2.1 (nI (N + 1))
        rw [decide_eq_false cc] at this
        exact this) (f := g3) I0
    refine ⟨N + 1, g, F1, F2, F3, ?_, F5, fun c => ⟨rfl, ?_⟩⟩
    · rcases itR_of T t (tq T t m N).1 (tq T t m N).2 with c | ⟨c1, c2, c⟩
      · rw [c] at F4 cc
        have eB : tB T t m N = (tI T t m N).2 := by
          unfold tB
          cases r : (tI T t m N).2 with
          | true => rfl
          | false =>
            have : tK T t (tI T t m N).1 = 0 := Classical.byContradiction fun d => cc ⟨r, d⟩
            rw [decide_eq_false (fun d => d this)]
            rfl
        rw [eB]
        exact F4
      · rw [c] at F4
        have eB : tB T t m N = true := by
          unfold tB
          have : tK T t (tI T t m N).1 ≠ 0 := by
            show tK T t (itX T t (tq T t m N).1 (tq T t m N).2).1 ≠ 0
            rw [c2]; omega
          rw [decide_eq_true this, Bool.or_true]
        rw [eB]
        exact F4
    · have hb : (tI T t m N).2 = false := by
        cases r : (tI T t m N).2 with
        | false => rfl
        | true => unfold tB at c; rw [r] at c; exact absurd c (by simp)
      have hk : tK T t (tI T t m N).1 = 0 := by
        by_cases d : tK T t (tI T t m N).1 = 0
        · exact d
        · unfold tB at c; rw [decide_eq_true d, Bool.or_true] at c; exact tf_no c
      refine F6 ?_
      rcases itR_of T t (tq T t m N).1 (tq T t m N).2 with d | ⟨c1, c2, d⟩
      · rw [d]; exact hb
      · have : tK T t (tI T t m N).1 = 2 := c2
        omega
theorem X7_text (f : FN) {T : Nat → Nat} {t m N : Nat} (hT : TPR f T t) (em : f 104 1 = nI m) (hm : m ≤ 8) (hN : N ≤ 120) (h1 : ¬ tGo T t m N) (h2 : ∀ i, i < N → tGo T t m i) : ∃ g, D_X7_text [.ref 103] (memOf f) = some (.int (if tB T t m N = true then -1 - nI (tS T t (tI T t m N).1) else nI (N + 1)), memOf g) ∧ (∀ x, x ≠ 103 → x ≠ 104 → x ≠ 106 → g x = f x) ∧ g 103 12 = 0 ∧ g 103 4 = f 103 4 ∧ (tB T t m N = true → g 104 = f 104) ∧ (tB T t m N = false → g 104 = tσ T t m (f 104) (N + 1)) := by
  have ht := hT.2.1
  obtain ⟨g1, P1, P2, P3⟩ := X7_puts f
  obtain ⟨f2, hf⟩ : ∃ f2, f2 = row g1 103 (upd (upd (g1 103) 14 0) 16 0) := ⟨_, rfl⟩
  have e2 : ∀ x, x ≠ 103 → f2 x = g1 x := fun x hx => by rw [hf, row_ne _ _ hx]
  have y2 : ∀ y, y ≠ 14 → y ≠ 16 → f2 103 y = f 103 y := fun y c1 c2 => by rw [hf, row_self, upd_ne _ _ c2, upd_ne _ _ c1, P2 103 (by omega)]
  have hT2 : TPR f2 T t := hT.congr (y2 12 (by omega) (by omega)) (by rw [e2 111 (by omega), P2 111 (by omega)])
  have e14 : f2 103 14 = nI 0 := by rw [hf, row_self, upd_ne _ _ (by omega), upd_self]; rfl
  have e16 : f2 103 16 = b2i false := by rw [hf, row_self, upd_self]; rfl
  obtain ⟨g3, A1, A2, A3, A4, A5⟩ := X7_token f2 hT2 e14 (tk_ok T (Nat.zero_le t))
  have A6 : cuR g3 T t 0 false := ⟨Nat.zero_le _, hT2.congr (A3 12 (by omega) (by omega)) (A2 111 (by omega)), ⟨A4, A5⟩, by rw [A3 16 (by omega) (by omega)]; exact e16⟩
  have s3 : g3 104 = f 104 := by rw [A2 104 (by omega), e2 104 (by omega), P2 104 (by omega)]
  obtain ⟨g4, B1, B2, B3, B4, B5, B6⟩ := X7_item g3 A6 ht hm (by rw [s3]; exact em)
  rw [s3] at B5 B6
  obtain ⟨n, g5, C1, C2, C3, C4, C5, C6⟩ := tx_loop g4 f B4 ht em hm hN h1 h2 B5 B6
  rw [hf] at A1
  have E5 : ∀ x, x ≠ 103 → x ≠ 104 → x ≠ 106 → g5 x = f x := fun x c1 c2 c3 => by rw [C2 x c1 c2, B2 x c1 c2, A2 x c1, e2 x c1, P2 x c3]
  have Y4 : g5 103 4 = f 103 4 := by rw [C3 4 (by omega), B3 4 (by omega), A3 4 (by omega) (by omega), y2 4 (by omega) (by omega)]
  have w5 : g5 103 16 = b2i (tB T t m N) := C4.2.2.2
  have s5 : g5 103 13 = nI (tS T t (tI T t m N).1) := C4.2.2.1.1
  cases hB : tB T t m N with
  | false =>
    rw [hB] at w5
    obtain ⟨rfl, c6⟩ := C6 hB
    refine ⟨row g5 103 (upd (g5 103) 12 0), ?_, fun x c1 c2 c3 => by rw [row_ne _ _ c1]; exact E5 x c1 c2 c3, by rw [row_self, upd_self], by rw [row_self, upd_ne _ _ (by omega)]; exact Y4, fun c => absurd c (by decide), fun _ => by rw [row_ne _ _ (by omega)]; exact c6⟩
    rw [if_neg (by decide)]
    have w6 : row g5 103 (upd (g5 103) 12 0) 103 16 = 0 := by rw [row_self, upd_ne _ _ (by omega)]; exact w5
    simp [D_X7_text, S_X7_text, m_den, l0, Value.category, s_seq, s_if, s_st, s_ret, s_retz, s_retv, s_skip, s_sc, s_inc, s_call, e_c, e_li, e_lr, e_lj, e_un, e_bin, e_if, e_b, b_not, b_and, b_or, b_of, e_call, a_recv, a_snoc, a_nil, prI, prJ, prR, e_gi, e_gr, e_ai, e_ar, s_as, s_aop, s_pf, s_pfz, s_fop, l_set, l_ok, e_div, e_rem, e_len, s_tab, rc_103, P1, p_103_14, p_103_16, row_row, row_self, A1, B1, C1, p_103_12, g_103_16, w6]
  | true =>
    rw [hB] at w5
    obtain ⟨g7, D1, D2, D3, D4⟩ := X7_putsBack (row g5 103 (upd (g5 103) 12 0))
    have w6 : row g5 103 (upd (g5 103) 12 0) 103 16 = 1 := by rw [row_self, upd_ne _ _ (by omega)]; exact w5
    have s7 : g7 103 13 = nI (tS T t (tI T t m N).1) := by rw [D2 103 (by omega), row_self, upd_ne _ _ (by omega)]; exact s5
    refine ⟨g7, ?_, fun x c1 c2 c3 => by rw [D2 x c2, row_ne _ _ c1]; exact E5 x c1 c2 c3, by rw [D2 103 (by omega), row_self, upd_self], by rw [D2 103 (by omega), row_self, upd_ne _ _ (by omega)]; exact Y4, fun _ => ?_, fun c => absurd c (by decide)⟩
    · rw [if_pos rfl]
      generalize nI (tS T t (tI T t m N).1) = z at s7
      simp [D_X7_text, S_X7_text, m_den, l0, Value.category, s_seq, s_if, s_st, s_ret, s_retz, s_retv, s_skip, s_sc, s_inc, s_call, e_c, e_li, e_lr, e_lj, e_un, e_bin, e_if, e_b, b_not, b_and, b_or, b_of, e_call, a_recv, a_snoc, a_nil, prI, prJ, prR, e_gi, e_gr, e_ai, e_ar, s_as, s_aop, s_pf, s_pfz, s_fop, l_set, l_ok, e_div, e_rem, e_len, s_tab, rc_103, P1, p_103_14, p_103_16, row_row, row_self, A1, B1, C1, p_103_12, g_103_16, w6, D1, g_103_13, s7]
    · funext y
      by_cases c : y < 735
      · rw [D3 y c, row_ne _ _ (by omega), C2 106 (by omega) (by omega), B2 106 (by omega) (by omega), A2 106 (by omega), e2 106 (by omega)]
        exact P3 y c
      · rw [D4 y (by omega), row_ne _ _ (by omega)]
        exact C5 y (by omega)
