/-! the reference's item -/
theorem item_eq : S_X7_item = (s_seq (s_seq (s_st Value.int 1 (e_call prI D_X7_kindHere 1 (a_recv 7 (a_snoc Value.ref a_nil (e_lr 0)))))
  (s_if (e_un (fun (x : Int32) => decide (0 ≤ x)) (e_li 1)) (s_call D_X7_chimneyItem 2 (a_recv 7 (a_snoc Value.int (a_snoc Value.ref a_nil (e_lr 0)) (e_li 1)))) (s_if (wdB 605670) (s_call D_X7_roofItem 1 (a_recv 7 (a_snoc Value.ref a_nil (e_lr 0)))) (s_call D_X7_windItem 1 (a_recv 7 (a_snoc Value.ref a_nil (e_lr 0)))))))
  s_retv) := rfl
theorem X7_item (f : FN) {T : Nat → Nat} {t p m : Nat} (h : cuR f T t p false) (ht : t ≤ 120) (hm : m ≤ 8) (em : f 104 1 = nI m) : ∃ g, D_X7_item [.ref 103] (memOf f) = some (.null, memOf g) ∧ (∀ x, x ≠ 103 → x ≠ 104 → g x = f x) ∧ (∀ y, ¬ (13 ≤ y ∧ y ≤ 16) → g 103 y = f 103 y) ∧ cuR g T t (itR T t p m).1 (itR T t p m).2 ∧ (∀ y, 735 ≤ y → g 104 y = f 104 y) ∧ ((itR T t p m).2 = false → g 104 = efR T t p m (f 104)) := by
  have kh := X7_kindHere f h ht
  rw [if_neg (by decide)] at kh
  have wb := fun L => wdB_ok f (q := (p, false)) (C := 605670) (ws := w_roof) h (by decide) (wc_roof T h.1 ht) L
  have eb : hB T t w_roof (p, false) = wB T t p w_roof := rfl
  by_cases ck : 0 ≤ kd T t p
  · have n1 : ¬ wB T t p w_roof = true := fun c => by rw [kd_roof c] at ck; exact absurd ck (by decide)
    have n2 : ¬ wB T t p w_wind = true := fun c => by rw [kd_wind c] at ck; exact absurd ck (by decide)
    obtain ⟨g, A1, A2, A3, A4, A5, A6⟩ := X7_chimneyItem f (q0 := (p, false)) (m := m) h ht hm em (kd T t p) rfl
    have ei : itR T t p m = chP T t (nd T t (decide (m < 8)) (p, false)) := by
      unfold itR
      rw [if_neg n1, if_neg n2]
      by_cases c8 : m < 8
      · rw [if_pos ⟨ck, c8⟩, decide_eq_true c8]; rfl
      · rw [if_neg (fun c => c8 c.2), decide_eq_false c8, nd_ff, chP_wr rfl]
    have c8 : (itR T t p m).2 = false → m < 8 := fun c => Classical.byContradiction fun d => by
      rw [ei, decide_eq_false d, nd_ff, chP_wr rfl] at c
      exact tf_no c
    have A4' : cuR g T t (itR T t p m).1 (itR T t p m).2 := by rw [ei]; exact A4
    rw [← ei] at A5 A6
    refine ⟨g, ?_, A2, A3, A4', fun y hy => ?_, fun c => ?_⟩
    · unfold D_X7_item
      rw [item_eq]
      generalize kd T t p = k at kh ck A1
      simp [m_den, l0, Value.category, s_seq, s_if, s_st, s_ret, s_retz, s_retv, s_skip, s_sc, s_inc, s_call, e_c, e_li, e_lr, e_lj, e_un, e_bin, e_if, e_b, b_not, b_and, b_or, b_of, e_call, a_recv, a_snoc, a_nil, prI, prJ, prR, e_gi, e_gr, e_ai, e_ar, s_as, s_aop, s_pf, s_pfz, s_fop, l_set, l_ok, e_div, e_rem, e_len, s_tab, rc_103, kh, ck, A1]
    · cases r : (itR T t p m).2 with
      | true => rw [A5 r]
      | false =>
        have := c8 r
        rw [A6 r]
        unfold chR
        rw [upd_ne _ _ (by omega), upd_ne _ _ (by omega), upd_ne _ _ (by omega), upd_ne _ _ (by omega), newR_ne _ _ _ _ (by omega) (by omega)]
    · have h8 := c8 c
      rw [A6 c, decide_eq_true h8, nd_tf]
      unfold efR
      rw [if_neg n1, if_neg n2]
      rfl
  · cases c1 : wB T t p w_roof with
    | true =>
      obtain ⟨g, A1, A2, A3, A4, A5, A6⟩ := X7_roofItem f (q := (p, false)) h ht
      rw [nd_tf] at A4 A5 A6
      have ei : itR T t p m = rfP T t (tE T t p, false) := by unfold itR; rw [if_pos c1]
      rw [← ei] at A4 A5 A6
      refine ⟨g, ?_, A2, A3, A4, fun y hy => ?_, fun c => ?_⟩
      · unfold D_X7_item
        rw [item_eq]
        rw [eb, c1] at wb
        generalize kd T t p = k at kh ck
        simp [m_den, l0, Value.category, s_seq, s_if, s_st, s_ret, s_retz, s_retv, s_skip, s_sc, s_inc, s_call, e_c, e_li, e_lr, e_lj, e_un, e_bin, e_if, e_b, b_not, b_and, b_or, b_of, e_call, a_recv, a_snoc, a_nil, prI, prJ, prR, e_gi, e_gr, e_ai, e_ar, s_as, s_aop, s_pf, s_pfz, s_fop, l_set, l_ok, e_div, e_rem, e_len, s_tab, rc_103, kh, ck, wb, A1]
      · cases r : (itR T t p m).2 with
        | true => rw [A5 r]
        | false =>
          rw [A6 r]
          rw [ei] at r
          have := nm_most (nd_ok (nd_ok r).1).1
          rw [upd_ne _ _ (by omega)]
      · rw [A6 c]
        unfold efR
        rw [if_pos c1]
        rfl
    | false =>
      obtain ⟨g, A1, A2, A3, A4, A5, A6⟩ := X7_windItem f (q := (p, false)) h ht
      have n1 : ¬ wB T t p w_roof = true := by rw [c1]; decide
      have ei : itR T t p m = wnR T t (nw T t w_wind (p, false)) := by
        unfold itR
        rw [if_neg n1]
        unfold nw
        cases c2 : wB T t p w_wind with
        | true => rw [if_pos rfl]; rfl
        | false =>
          rw [if_neg (by decide), if_neg (fun c => ck c.1)]
          exact (wnR_wr rfl).symm
      rw [← ei] at A4 A6
      refine ⟨g, ?_, A2, A3, A4, A5, fun c => ?_⟩
      · unfold D_X7_item
        rw [item_eq]
        rw [eb, c1] at wb
        generalize kd T t p = k at kh ck
        simp [m_den, l0, Value.category, s_seq, s_if, s_st, s_ret, s_retz, s_retv, s_skip, s_sc, s_inc, s_call, e_c, e_li, e_lr, e_lj, e_un, e_bin, e_if, e_b, b_not, b_and, b_or, b_of, e_call, a_recv, a_snoc, a_nil, prI, prJ, prR, e_gi, e_gr, e_ai, e_ar, s_as, s_aop, s_pf, s_pfz, s_fop, l_set, l_ok, e_div, e_rem, e_len, s_tab, rc_103, kh, ck, wb, A1]
      · have n2 : wB T t p w_wind = true := by
          cases c2 : wB T t p w_wind with
          | true => rfl
          | false =>
            rw [ei] at c
            unfold nw at c
            rw [show wB T t (p, false).1 w_wind = false from c2, nd_ff, wnR_wr rfl] at c
            exact tf_no c
        rw [A6 c]
        unfold efR
        rw [if_neg n1, if_pos n2]
        unfold nw
        rw [show wB T t (p, false).1 w_wind = true from n2, nd_tf]
theorem X7_item_wr (f : FN) {T : Nat → Nat} {t p : Nat} (h : cuR f T t p true) (ht : t ≤ 120) : ∃ g, D_X7_item [.ref 103] (memOf f) = some (.null, memOf g) ∧ (∀ x, x ≠ 103 → x ≠ 104 → g x = f x) ∧ (∀ y, ¬ (13 ≤ y ∧ y ≤ 16) → g 103 y = f 103 y) ∧ cuR g T t p true ∧ (∀ y, 735 ≤ y → g 104 y = f 104 y) := by
  have kh := X7_kindHere f h ht
  rw [if_pos rfl] at kh
  have wb := fun L => wdB_ok f (q := (p, true)) (C := 605670) (ws := w_roof) h (by decide) (wc_roof T h.1 ht) L
  rw [hB_wr rfl] at wb
  obtain ⟨g, A1, A2, A3, A4, A5, A6⟩ := X7_windItem f (q := (p, true)) h ht
  rw [nw_wr rfl, wnR_wr rfl] at A4
  refine ⟨g, ?_, A2, A3, A4, A5⟩
  unfold D_X7_item
  rw [item_eq]
  have ck : ¬ (0 : Int32) ≤ -1 := by decide
  generalize (-1 : Int32) = k at kh ck
  simp [m_den, l0, Value.category, s_seq, s_if, s_st, s_ret, s_retz, s_retv, s_skip, s_sc, s_inc, s_call, e_c, e_li, e_lr, e_lj, e_un, e_bin, e_if, e_b, b_not, b_and, b_or, b_of, e_call, a_recv, a_snoc, a_nil, prI, prJ, prR, e_gi, e_gr, e_ai, e_ar, s_as, s_aop, s_pf, s_pfz, s_fop, l_set, l_ok, e_div, e_rem, e_len, s_tab, rc_103, kh, ck, wb, A1]
