/-! winds of the reference: one round -/
theorem tf_no {P : Prop} (h : true = false) : P := by cases h
theorem cuR_104 {g : FN} {T : Nat → Nat} {t p : Nat} {w : Bool} (h : cuR g T t p w) (r : Nat → Int32) : cuR (row g 104 r) T t p w := by
  obtain ⟨c1, c2, c3, c4⟩ := h
  have r3 : row g 104 r 103 = g 103 := row_ne _ _ (by omega)
  have r11 : row g 104 r 111 = g 111 := row_ne _ _ (by omega)
  exact ⟨c1, c2.congr (by rw [r3]) r11, by unfold TKR at c3 ⊢; rw [r3]; exact c3, by rw [r3]; exact c4⟩
theorem cuR_dig {g : FN} {T : Nat → Nat} {t p : Nat} {w : Bool} (h : cuR g T t p w) : D_X7_byteAt [.ref 103, .int (nI (tS T t p))] (memOf g) = some (.int (bAt T t (tS T t p)), memOf g) ∧ ∀ M, D_X7_isDigit [.int (bAt T t (tS T t p))] M = some (.int (b2i (decide (tK T t p = 2))), M) := by
  obtain ⟨c1, c2, c3, c4⟩ := h
  have hb := tk_b T c1
  have ht := c2.2.1
  refine ⟨X7_byteAt g c2 (by omega), fun M => ?_⟩
  rw [← tk_let T c1 2 (Or.inr rfl)]
  exact dig_b (fun q => (c2.2.2 _ q).2) M
/-- a round whose hour is in the day -/
theorem wi_step (f : FN) {T : Nat → Nat} {t : Nat} {q : Nat × Bool} (h : cuR f T t q.1 q.2) {n : Nat} (hn : n < 24) : ∃ (c : Int32) (m : Int32) (g : FN), WS_X7_windItem_1 [.ref 103, .int (nI n), .int 1] (memOf f) = some (.inl ([.ref 103, .int c, .int m], memOf g)) ∧ (∀ x, x ≠ 103 → x ≠ 104 → g x = f x) ∧ (∀ y, ¬ (13 ≤ y ∧ y ≤ 16) → g 103 y = f 103 y) ∧ cuR g T t (nm T t 4 q).1 (nm T t 4 q).2 ∧ ((nm T t 4 q).2 = true → c = nI n ∧ m = 1 ∧ g 104 = f 104) ∧ ((nm T t 4 q).2 = false → c = nI (n + 1) ∧ m = b2i (decide (tK T t (nm T t 4 q).1 = 2)) ∧ g 104 = upd (f 104) (39 + n) (nI (nN T t q.1))) := by
  obtain ⟨g1, A1, A2, A3, A4, A5⟩ := X7_number' f (most := 4) h (by omega)
  have A1' : D_X7_number [.ref 103, .int 0, .int 4] (memOf f) = some (.null, memOf g1) := A1
  have n23 : ¬ (23 : Int32) < nI n := fun c => absurd ((nI_lt_iff (a := 23) (b := n) (by omega) (by omega)).mp c) (by omega)
  have w3 : g1 103 16 = b2i (nm T t 4 q).2 := A4.2.2.2
  cases hq : (nm T t 4 q).2 with
  | true =>
    rw [hq] at w3
    refine ⟨nI n, 1, g1, ?_, fun x hx _ => A2 x hx, A3, hq ▸ A4, fun _ => ⟨rfl, rfl, A2 104 (by omega)⟩, fun c => absurd c (by decide)⟩
    simp [WS_X7_windItem_1, m_den, l0, Value.category, s_seq, s_if, s_st, s_ret, s_retz, s_retv, s_skip, s_sc, s_inc, s_call, e_c, e_li, e_lr, e_lj, e_un, e_bin, e_if, e_b, b_not, b_and, b_or, b_of, e_call, a_recv, a_snoc, a_nil, prI, prJ, prR, e_gi, e_gr, e_ai, e_ar, s_as, s_aop, s_pf, s_pfz, s_fop, l_set, l_ok, e_div, e_rem, e_len, s_tab, rc_103, n23, A1', g_103_16, w3, b2i]
  | false =>
    rw [hq] at w3
    have v := A5 hq
    have i1 : (39 : Int32) + nI n = nI (39 + n) := nI_a 39 _
    have A6 := cuR_104 A4 (upd (g1 104) (39 + n) (nI (nN T t q.1)))
    obtain ⟨d1, d2⟩ := cuR_dig A6
    have s1 : row g1 104 (upd (g1 104) (39 + n) (nI (nN T t q.1))) 103 13 = nI (tS T t (nm T t 4 q).1) := A6.2.2.1.1
    refine ⟨nI (n + 1), b2i (decide (tK T t (nm T t 4 q).1 = 2)), row g1 104 (upd (g1 104) (39 + n) (nI (nN T t q.1))), ?_, fun x hx h4 => by rw [row_ne _ _ h4]; exact A2 x hx, fun y hy => by rw [row_ne _ _ (by omega)]; exact A3 y hy, hq ▸ A6, fun c => absurd c (by decide), fun _ => ⟨rfl, rfl, by rw [row_self, A2 104 (by omega)]⟩⟩
    generalize bAt T t (tS T t (nm T t 4 q).1) = bb at d1 d2
    simp [WS_X7_windItem_1, m_den, l0, Value.category, s_seq, s_if, s_st, s_ret, s_retz, s_retv, s_skip, s_sc, s_inc, s_call, e_c, e_li, e_lr, e_lj, e_un, e_bin, e_if, e_b, b_not, b_and, b_or, b_of, e_call, a_recv, a_snoc, a_nil, prI, prJ, prR, e_gi, e_gr, e_ai, e_ar, s_as, s_aop, s_pf, s_pfz, s_fop, l_set, l_ok, e_div, e_rem, e_len, s_tab, rc_103, n23, A1', g_103_16, w3, b2i_ne, g_103_15, v, g_103_0, i1, wr_104 g1 (show 39 + n < 735 by omega), nI_next, g_103_13, s1, d1, d2]
/-- a round past the day's end: the number at hand is wrong -/
theorem wi_over (f : FN) {T : Nat → Nat} {t p : Nat} (h : cuR f T t p false) : ∃ g, WS_X7_windItem_1 [.ref 103, .int (nI 24), .int 1] (memOf f) = some (.inl ([.ref 103, .int (nI 24), .int 1], memOf g)) ∧ (∀ x, x ≠ 103 → g x = f x) ∧ (∀ y, ¬ (13 ≤ y ∧ y ≤ 16) → g 103 y = f 103 y) ∧ cuR g T t p true := by
  obtain ⟨a, hT, hk, hw⟩ := id h
  have hb := tk_b T a
  have lk := tk_let T a 2 (Or.inr rfl)
  obtain ⟨v, g, N1, N2, N3, N4, N5⟩ := X7_number f (hi := -1) hT hk ⟨hb.1, hb.2.1⟩ (fun q => tk_dig T a (by rw [lk] at q; exact of_decide_eq_true q)) hw
  have hg : cuR g T t p false := ⟨a, hT.congr (N3 12 (by omega)) (N2 111 (by omega)), ⟨by rw [N3 13 (by omega)]; exact hk.1, by rw [N3 14 (by omega)]; exact hk.2⟩, by rw [N3 16 (by omega)]; exact hw⟩
  have nv : ¬ ((0 : Int32) ≤ v ∧ v ≤ -1) := fun c => absurd (Int32.le_trans c.1 c.2) (by decide)
  rw [decide_eq_false nv, Bool.and_false] at N5
  obtain ⟨g2, A1, A2, A3, A4⟩ := X7_needs' g (q := (p, false)) hg false
  have A1' := N5 g2 A1
  have A4' : cuR g2 T t p true := A4
  have w3 : g2 103 16 = 1 := A4'.2.2.2
  have n23 : (23 : Int32) < nI 24 := by decide
  refine ⟨g2, ?_, fun x hx => by rw [A2 x hx, N2 x hx], fun y hy => by rw [A3 y hy, N3 y (by omega)], A4'⟩
  generalize nI 24 = z at n23
  simp [WS_X7_windItem_1, m_den, l0, Value.category, s_seq, s_if, s_st, s_ret, s_retz, s_retv, s_skip, s_sc, s_inc, s_call, e_c, e_li, e_lr, e_lj, e_un, e_bin, e_if, e_b, b_not, b_and, b_or, b_of, e_call, a_recv, a_snoc, a_nil, prI, prJ, prR, e_gi, e_gr, e_ai, e_ar, s_as, s_aop, s_pf, s_pfz, s_fop, l_set, l_ok, e_div, e_rem, e_len, s_tab, rc_103, n23, A1', g_103_16, w3]
