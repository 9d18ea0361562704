/-! a chimney's item of the reference -/
def wdB (C : Int64) : DE Bool := e_un (fun (x : Int32) => decide (x = 0)) (e_bin (fun x y => lg_cmp x y) (e_call prJ D_X7_word 1 (a_recv 7 (a_snoc Value.ref a_nil (e_lr 0)))) (e_c C))
def wdE (C : Int64) : DE Int32 := e_b (wdB C)
theorem wdB_ok (f : FN) {T : Nat → Nat} {t : Nat} {q : Nat × Bool} {C : Int64} {ws : List Nat} (h : cuR f T t q.1 q.2) (h0 : ¬ (0 : Int64) = C) (hc : (woJ T t (tS T t q.1) (tE T t q.1) = C) = (wB T t q.1 ws = true)) (L : List Value) : wdB C (.ref 103 :: L) (memOf f) = some (hB T t ws q, memOf f) := by
  have w := X7_wordC f h
  have e : ∀ z : Int64, z = (if q.2 then 0 else woJ T t (tS T t q.1) (tE T t q.1)) → (z = C) = (hB T t ws q = true) := fun z hz => by
    unfold hB
    cases hq : q.2 with
    | true =>
      rw [hq] at hz
      simp only [if_true] at hz
      subst hz
      simp [h0]
    | false =>
      rw [hq] at hz
      simp only [Bool.false_eq_true, if_false] at hz
      subst hz
      rw [hc]
      simp
  generalize (if q.2 = true then (0 : Int64) else woJ T t (tS T t q.1) (tE T t q.1)) = z at w e
  have ez := e z rfl
  cases r : hB T t ws q with
  | true =>
    rw [r] at ez
    have cz : z = C := ez.mpr rfl
    simp [wdB, m_den, l0, Value.category, s_seq, s_if, s_st, s_ret, s_retz, s_retv, s_skip, s_sc, s_inc, s_call, e_c, e_li, e_lr, e_lj, e_un, e_bin, e_if, e_b, b_not, b_and, b_or, b_of, e_call, a_recv, a_snoc, a_nil, prI, prJ, prR, e_gi, e_gr, e_ai, e_ar, s_as, s_aop, s_pf, s_pfz, s_fop, l_set, l_ok, e_div, e_rem, e_len, s_tab, rc_103, w, lg_zero, cz]
  | false =>
    rw [r] at ez
    have cz : ¬ z = C := fun c => absurd (ez.mp c) (by decide)
    simp [wdB, m_den, l0, Value.category, s_seq, s_if, s_st, s_ret, s_retz, s_retv, s_skip, s_sc, s_inc, s_call, e_c, e_li, e_lr, e_lj, e_un, e_bin, e_if, e_b, b_not, b_and, b_or, b_of, e_call, a_recv, a_snoc, a_nil, prI, prJ, prR, e_gi, e_gr, e_ai, e_ar, s_as, s_aop, s_pf, s_pfz, s_fop, l_set, l_ok, e_div, e_rem, e_len, s_tab, rc_103, w, lg_zero, cz]
theorem wdE_ok (f : FN) {T : Nat → Nat} {t : Nat} {q : Nat × Bool} {C : Int64} {ws : List Nat} (h : cuR f T t q.1 q.2) (h0 : ¬ (0 : Int64) = C) (hc : (woJ T t (tS T t q.1) (tE T t q.1) = C) = (wB T t q.1 ws = true)) (L : List Value) : wdE C (.ref 103 :: L) (memOf f) = some (b2i (hB T t ws q), memOf f) := by
  have w := wdB_ok f h h0 hc L
  unfold wdE e_b
  rw [w]
  cases hB T t ws q <;> rfl
theorem nd_hB (T : Nat → Nat) (t : Nat) (ws : List Nat) (q : Nat × Bool) : nd T t (hB T t ws q) q = nw T t ws q := by
  unfold nw hB
  cases hq : q.2 with
  | true => rw [nd_wr hq, nd_wr hq]
  | false => rfl
def fromR : SD := s_if (b_of (e_li 6)) (s_seq (s_call D_X7_needs 2 (a_recv 7 (a_snoc Value.int (a_snoc Value.ref a_nil (e_lr 0)) (wdE 409031))))
  (s_seq (s_call D_X7_number 3 (a_recv 7 (a_snoc Value.int (a_snoc Value.int (a_snoc Value.ref a_nil (e_lr 0)) (e_c (0 : Int32))) (e_c (24 : Int32)))))
  (s_st Value.int 8 (e_gi 7 15 (e_lr 0))))) s_skip
def setR : SD := s_if (b_not (b_of (e_gi 7 16 (e_lr 0)))) (s_sc 9 (s_seq (s_st Value.int 9 (e_call prI D_X7_newChimney 4 (a_recv 7 (a_snoc Value.int (a_snoc Value.int (a_snoc Value.int (a_snoc Value.ref a_nil (e_lr 0)) (e_li 1)) (e_li 2)) (e_li 3)))))
  (s_seq (s_as (e_gr 7 0 (e_lr 0)) (e_call prI D_X7_at 2 (a_snoc Value.int (a_snoc Value.int a_nil (e_li 9)) (e_c (3 : Int32)))) (e_li 4))
  (s_seq (s_as (e_gr 7 0 (e_lr 0)) (e_call prI D_X7_at 2 (a_snoc Value.int (a_snoc Value.int a_nil (e_li 9)) (e_c (4 : Int32)))) (e_li 5))
  (s_seq (s_as (e_gr 7 0 (e_lr 0)) (e_call prI D_X7_at 2 (a_snoc Value.int (a_snoc Value.int a_nil (e_li 9)) (e_c (5 : Int32)))) (e_li 7))
  (s_as (e_gr 7 0 (e_lr 0)) (e_call prI D_X7_at 2 (a_snoc Value.int (a_snoc Value.int a_nil (e_li 9)) (e_c (6 : Int32)))) (e_li 8))))))) s_skip
def m8E : DE Int32 := e_b (e_bin (fun (x y : Int32) => decide (x < y)) (e_ai (e_gr 7 0 (e_lr 0)) (e_c (1 : Int32))) (e_c (8 : Int32)))
theorem m8E_ok (f : FN) {m : Nat} (hm : m ≤ 8) (em : f 104 1 = nI m) (L : List Value) : m8E (.ref 103 :: L) (memOf f) = some (b2i (decide (m < 8)), memOf f) := by
  have q : (nI m < (8 : Int32)) = (m < 8) := propext (nI_lt_iff (a := m) (b := 8) (by omega) (by omega))
  by_cases c : m < 8 <;> simp [m8E, m_den, l0, Value.category, s_seq, s_if, s_st, s_ret, s_retz, s_retv, s_skip, s_sc, s_inc, s_call, e_c, e_li, e_lr, e_lj, e_un, e_bin, e_if, e_b, b_not, b_and, b_or, b_of, e_call, a_recv, a_snoc, a_nil, prI, prJ, prR, e_gi, e_gr, e_ai, e_ar, s_as, s_aop, s_pf, s_pfz, s_fop, l_set, l_ok, e_div, e_rem, e_len, s_tab, g_103_0, rd_104_1, em, q, c, b2i]
theorem ci_eq : S_X7_chimneyItem = (s_seq (s_seq (s_call D_X7_needs 2 (a_recv 7 (a_snoc Value.int (a_snoc Value.ref a_nil (e_lr 0)) m8E)))
  (s_seq (s_call D_X7_needs 2 (a_recv 7 (a_snoc Value.int (a_snoc Value.ref a_nil (e_lr 0)) (wdE 486))))
  (s_seq (s_call D_X7_number 3 (a_recv 7 (a_snoc Value.int (a_snoc Value.int (a_snoc Value.ref a_nil (e_lr 0)) (e_c (0 : Int32))) (e_c (5 : Int32)))))
  (s_seq (s_st Value.int 2 (e_gi 7 15 (e_lr 0)))
  (s_seq (s_call D_X7_needs 2 (a_recv 7 (a_snoc Value.int (a_snoc Value.ref a_nil (e_lr 0)) (wdE 52))))
  (s_seq (s_call D_X7_number 3 (a_recv 7 (a_snoc Value.int (a_snoc Value.int (a_snoc Value.ref a_nil (e_lr 0)) (e_c (0 : Int32))) (e_c (35 : Int32)))))
  (s_seq (s_st Value.int 3 (e_gi 7 15 (e_lr 0)))
  (s_seq (s_st Value.int 4 (e_call prI D_X7_perhaps 4 (a_recv 7 (a_snoc Value.int (a_snoc Value.int (a_snoc Value.int (a_snoc Value.ref a_nil (e_lr 0)) (wdE 271592)) (e_c (9 : Int32))) (e_c (1 : Int32))))))
  (s_seq (s_st Value.int 5 (e_call prI D_X7_perhaps 4 (a_recv 7 (a_snoc Value.int (a_snoc Value.int (a_snoc Value.int (a_snoc Value.ref a_nil (e_lr 0)) (wdE 206405)) (e_c (99 : Int32))) (e_c (20 : Int32))))))
  (s_seq (s_st Value.int 6 (wdE 215533))
  (s_seq (s_st Value.int 7 (e_call prI D_X7_perhaps 4 (a_recv 7 (a_snoc Value.int (a_snoc Value.int (a_snoc Value.int (a_snoc Value.ref a_nil (e_lr 0)) (e_li 6)) (e_c (23 : Int32))) (e_c (0 : Int32))))))
  (s_seq (s_st Value.int 8 (e_c (24 : Int32)))
  (s_seq fromR
  setR)))))))))))))
  s_retv) := rfl
theorem X7_needsE (f : FN) {T : Nat → Nat} {t : Nat} {q : Nat × Bool} {C : Int64} {ws : List Nat} (h : cuR f T t q.1 q.2) (h0 : ¬ (0 : Int64) = C) (hc : (woJ T t (tS T t q.1) (tE T t q.1) = C) = (wB T t q.1 ws = true)) : ∃ (z : Int32) (g : FN), (∀ L, wdE C (.ref 103 :: L) (memOf f) = some (z, memOf f)) ∧ D_X7_needs [.ref 103, .int z] (memOf f) = some (.null, memOf g) ∧ (∀ x, x ≠ 103 → g x = f x) ∧ (∀ y, ¬ (13 ≤ y ∧ y ≤ 16) → g 103 y = f 103 y) ∧ cuR g T t (nw T t ws q).1 (nw T t ws q).2 := by
  obtain ⟨g, A1, A2, A3, A4⟩ := X7_needs' f h (hB T t ws q)
  rw [nd_hB] at A4
  exact ⟨_, g, fun L => wdE_ok f h h0 hc L, A1, A2, A3, A4⟩
theorem X7_opt (f : FN) {T : Nat → Nat} {t most : Nat} {q : Nat × Bool} {C : Int64} {ws : List Nat} (h : cuR f T t q.1 q.2) (h0 : ¬ (0 : Int64) = C) (hc : (woJ T t (tS T t q.1) (tE T t q.1) = C) = (wB T t q.1 ws = true)) (hm : most ≤ 99) (d : Nat) : ∃ (v : Int32) (g : FN), (∀ L, wdE C (.ref 103 :: L) (memOf f) = some (b2i (hB T t ws q), memOf f)) ∧ D_X7_perhaps [.ref 103, .int (b2i (hB T t ws q)), .int (nI most), .int (nI d)] (memOf f) = some (.int v, memOf g) ∧ (∀ x, x ≠ 103 → g x = f x) ∧ (∀ y, ¬ (13 ≤ y ∧ y ≤ 16) → g 103 y = f 103 y) ∧ cuR g T t (ph T t ws most q).1 (ph T t ws most q).2 ∧ ((ph T t ws most q).2 = false → v = nI (pv T t ws q d)) := by
  obtain ⟨v, g, A1, A2, A3, A4, A5⟩ := X7_perhaps f h hm (hB T t ws q) (nI d)
  refine ⟨v, g, fun L => wdE_ok f h h0 hc L, A1, A2, A3, A4, fun hq => ?_⟩
  rw [A5 hq]
  unfold pv
  cases hB T t ws q <;> rfl
theorem X7_fromR (f : FN) {T : Nat → Nat} {t : Nat} {q : Nat × Bool} (h : cuR f T t (ph T t w_from 23 q).1 (ph T t w_from 23 q).2) (ht : t ≤ 120) (kd ow ce hi fi fr : Int32) : ∃ (lo : Int32) (g : FN), fromR [.ref 103, .int kd, .int ow, .int ce, .int hi, .int fi, .int (b2i (hB T t w_from q)), .int fr, .int 24] (memOf f) = some (.inl ([.ref 103, .int kd, .int ow, .int ce, .int hi, .int fi, .int (b2i (hB T t w_from q)), .int fr, .int lo], memOf g)) ∧ (∀ x, x ≠ 103 → g x = f x) ∧ (∀ y, ¬ (13 ≤ y ∧ y ≤ 16) → g 103 y = f 103 y) ∧ cuR g T t (cQ T t q).1 (cQ T t q).2 ∧ ((cQ T t q).2 = false → lo = nI (cLo T t q)) := by
  cases hb : hB T t w_from q with
  | false =>
    have c : cQ T t q = q := by unfold cQ; rw [hb]; rfl
    rw [ph_no hb] at h
    refine ⟨24, f, ?_, fun _ _ => rfl, fun _ _ => rfl, by rw [c]; exact h, fun _ => ?_⟩
    · simp [fromR, m_den, l0, Value.category, s_seq, s_if, s_st, s_ret, s_retz, s_retv, s_skip, s_sc, s_inc, s_call, e_c, e_li, e_lr, e_lj, e_un, e_bin, e_if, e_b, b_not, b_and, b_or, b_of, e_call, a_recv, a_snoc, a_nil, prI, prJ, prR, e_gi, e_gr, e_ai, e_ar, s_as, s_aop, s_pf, s_pfz, s_fop, l_set, l_ok, e_div, e_rem, e_len, s_tab, b2i]
    · unfold cLo; rw [hb]; rfl
  | true =>
    have c : cQ T t q = nm T t 24 (nw T t w_long (ph T t w_from 23 q)) := by unfold cQ; rw [hb]; rfl
    obtain ⟨z, g1, A0, A1, A2, A3, A4⟩ := X7_needsE f (q := ph T t w_from 23 q) (C := 409031) (ws := w_long) h (by decide) (wc_long T h.1 ht)
    obtain ⟨g2, B1, B2, B3, B4, B5⟩ := X7_number' g1 (q := nw T t w_long (ph T t w_from 23 q)) (most := 24) A4 (by omega)
    have B1' : D_X7_number [.ref 103, .int 0, .int 24] (memOf g1) = some (.null, memOf g2) := B1
    refine ⟨g2 103 15, g2, ?_, fun x hx => by rw [B2 x hx, A2 x hx], fun y hy => by rw [B3 y hy, A3 y hy], by rw [c]; exact B4, fun hq => ?_⟩
    · simp [fromR, m_den, l0, Value.category, s_seq, s_if, s_st, s_ret, s_retz, s_retv, s_skip, s_sc, s_inc, s_call, e_c, e_li, e_lr, e_lj, e_un, e_bin, e_if, e_b, b_not, b_and, b_or, b_of, e_call, a_recv, a_snoc, a_nil, prI, prJ, prR, e_gi, e_gr, e_ai, e_ar, s_as, s_aop, s_pf, s_pfz, s_fop, l_set, l_ok, e_div, e_rem, e_len, s_tab, b2i, rc_103, A0, A1, B1', g_103_15]
    · rw [c] at hq
      unfold cLo
      rw [hb, B5 hq]
      rfl
def chR (σ : Nat → Int32) (m : Nat) (kd ow ce hi fi fr lo : Int32) : Nat → Int32 := upd (upd (upd (upd (newR σ m kd ow ce) (63 + 7 * m + 3) hi) (63 + 7 * m + 4) fi) (63 + 7 * m + 5) fr) (63 + 7 * m + 6) lo
theorem X7_set1 (f : FN) {m : Nat} (hm : m < 8) (em : f 104 1 = nI m) (kd ow ce hi fi to fr lo : Int32) (hw : f 103 16 = 0) : setR [.ref 103, .int kd, .int ow, .int ce, .int hi, .int fi, .int to, .int fr, .int lo] (memOf f) = some (.inl ([.ref 103, .int kd, .int ow, .int ce, .int hi, .int fi, .int to, .int fr, .int lo], memOf (row f 104 (chR (f 104) m kd ow ce hi fi fr lo)))) := by
  have nw := X7_newChimney f hm em kd ow ce
  have ex : chR (f 104) m kd ow ce hi fi fr lo = upd (upd (upd (upd (newR (f 104) m kd ow ce) (63 + 7 * m + 3) hi) (63 + 7 * m + 4) fi) (63 + 7 * m + 5) fr) (63 + 7 * m + 6) lo := rfl
  rw [ex]
  generalize newR (f 104) m kd ow ce = σ at nw ⊢
  simp [setR, m_den, l0, Value.category, s_seq, s_if, s_st, s_ret, s_retz, s_retv, s_skip, s_sc, s_inc, s_call, e_c, e_li, e_lr, e_lj, e_un, e_bin, e_if, e_b, b_not, b_and, b_or, b_of, e_call, a_recv, a_snoc, a_nil, prI, prJ, prR, e_gi, e_gr, e_ai, e_ar, s_as, s_aop, s_pf, s_pfz, s_fop, l_set, l_ok, e_div, e_rem, e_len, s_tab, g_103_16, hw, rc_103, nw, g_103_0, X7_at3, X7_at4, X7_at5, X7_at6, wr_104 _ (show 63 + 7 * m + 3 < 735 by omega), wr_104 _ (show 63 + 7 * m + 4 < 735 by omega), wr_104 _ (show 63 + 7 * m + 5 < 735 by omega), wr_104 _ (show 63 + 7 * m + 6 < 735 by omega), row_row, row_self]
theorem X7_set0 (f : FN) (L : List Value) (hw : f 103 16 = 1) : setR (.ref 103 :: L) (memOf f) = some (.inl (.ref 103 :: L, memOf f)) := by
  simp [setR, m_den, l0, Value.category, s_seq, s_if, s_st, s_ret, s_retz, s_retv, s_skip, s_sc, s_inc, s_call, e_c, e_li, e_lr, e_lj, e_un, e_bin, e_if, e_b, b_not, b_and, b_or, b_of, e_call, a_recv, a_snoc, a_nil, prI, prJ, prR, e_gi, e_gr, e_ai, e_ar, s_as, s_aop, s_pf, s_pfz, s_fop, l_set, l_ok, e_div, e_rem, e_len, s_tab, g_103_16, hw]
