/-! the reference's text -/
theorem itR_of (T : Nat → Nat) (t p m : Nat) : itR T t p m = itX T t p m ∨ ((itX T t p m).2 = false ∧ tK T t (itX T t p m).1 = 2 ∧ itR T t p m = ((itX T t p m).1, true)) := by
  unfold itR itX
  by_cases c1 : wB T t p w_roof = true
  · rw [if_pos c1, if_pos c1]; exact Or.inl rfl
  · rw [if_neg c1, if_neg c1]
    by_cases c2 : wB T t p w_wind = true
    · rw [if_pos c2, if_pos c2]
      unfold wnR
      by_cases c3 : (nm T t 23 (tE T t p, false)).2 = false ∧ (wnX T t (tE T t p, false)).2 = false ∧ tK T t (wnX T t (tE T t p, false)).1 = 2
      · rw [if_pos c3]; exact Or.inr ⟨c3.2.1, c3.2.2, rfl⟩
      · rw [if_neg c3]; exact Or.inl rfl
    · rw [if_neg c2, if_neg c2]; exact Or.inl rfl
theorem wR_lo (T : Nat → Nat) (t : Nat) (q : Nat × Bool) (a : Nat) (r : Nat → Int32) : ∀ k y, y < a → wR T t q a r k y = r y := fun k => by
  induction k with
  | zero => intro y _; rfl
  | succ k ih =>
    intro y hy
    show upd (wR T t q a r k) (a + k) _ y = r y
    rw [upd_ne _ _ (by omega)]
    exact ih y hy
theorem efR_m {T : Nat → Nat} {t p m : Nat} {σ : Nat → Int32} (em : σ 1 = nI m) (hok : (itX T t p m).2 = false) : efR T t p m σ 1 = nI (itM T t p m) := by
  unfold efR
  by_cases c1 : wB T t p w_roof = true
  · rw [if_pos c1, upd_ne _ _ (by omega), itM_roof (Or.inl c1)]; exact em
  · rw [if_neg c1]
    by_cases c2 : wB T t p w_wind = true
    · rw [if_pos c2, wR_lo _ _ _ _ _ _ _ (by omega), itM_roof (Or.inr c2)]; exact em
    · rw [if_neg c2]
      rcases itX_told hok with (c | c) | c
      · exact absurd c c1
      · exact absurd c c2
      · rw [itM_kd c.2.2.1]
        unfold ceR chR
        rw [upd_ne _ _ (by omega), upd_ne _ _ (by omega), upd_ne _ _ (by omega), upd_ne _ _ (by omega), newR_1]
theorem tσ_m {T : Nat → Nat} {t m : Nat} {σ : Nat → Int32} (em : σ 1 = nI m) : ∀ i, (∀ j, j < i → (tI T t m j).2 = false) → tσ T t m σ i 1 = nI (tq T t m i).2 := fun i => by
  induction i with
  | zero => intro _; exact em
  | succ i ih => intro h; exact efR_m (ih (fun j hj => h j (by omega))) (h i (by omega))
theorem srt_3 (b : Nat) : srt b = 3 ↔ b = 59 := by
  unfold srt
  split
  · exact ⟨fun c => absurd c (by omega), fun c => by omega⟩
  · split
    · exact ⟨fun c => absurd c (by omega), fun c => by omega⟩
    · split
      · exact ⟨fun _ => by assumption, fun _ => rfl⟩
      · exact ⟨fun c => absurd c (by omega), fun c => by omega⟩
theorem tk_3 (T : Nat → Nat) {t p : Nat} (h : p ≤ t) : tK T t p = 3 ↔ (tS T t p < t ∧ T (tS T t p) = 59) := by
  obtain ⟨⟨a, b⟩, c, d, e⟩ := tk_ok T h
  rcases e with ⟨e1, e2, e3⟩ | ⟨e1, e2, e3, e4, e5, e6⟩
  · omega
  · rw [e2, srt_3]
    exact ⟨fun q => ⟨e1, q⟩, fun q => q.2⟩
def sgE : DE Int32 := e_b (e_bin (fun (x y : Int32) => decide (x = y)) (e_call prI D_X7_byteAt 2 (a_recv 7 (a_snoc Value.int (a_snoc Value.ref a_nil (e_lr 0)) (e_gi 7 13 (e_lr 0))))) (e_c (59 : Int32)))
theorem sgE_ok (g : FN) {T : Nat → Nat} {t p : Nat} {w : Bool} (h : cuR g T t p w) (L : List Value) : sgE (.ref 103 :: L) (memOf g) = some (b2i (decide (tK T t p = 3)), memOf g) := by
  obtain ⟨c1, c2, c3, c4⟩ := h
  have hb := tk_b T c1
  have ht := c2.2.1
  have y := X7_byteAt g c2 (i := tS T t p) (by omega)
  have s := c3.1
  have q : (bAt T t (tS T t p) = (59 : Int32)) = (tK T t p = 3) := by
    rw [propext (tk_3 T c1)]
    unfold bAt
    by_cases c : tS T t p < t
    · rw [if_pos c]
      have b := (c2.2.2 _ c).2
      have := nI_inj (a := T (tS T t p)) (b := 59) (by omega) (by omega)
      exact propext ⟨fun r => ⟨c, this.mp r⟩, fun r => this.mpr r.2⟩
    · rw [if_neg c]
      exact propext ⟨fun r => absurd r (by decide), fun r => absurd r.1 c⟩
  generalize bAt T t (tS T t p) = z at y q
  by_cases ck : tK T t p = 3
  · have cz : z = 59 := q.mpr ck
    simp [sgE, m_den, l0, Value.category, s_seq, s_if, s_st, s_ret, s_retz, s_retv, s_skip, s_sc, s_inc, s_call, e_c, e_li, e_lr, e_lj, e_un, e_bin, e_if, e_b, b_not, b_and, b_or, b_of, e_call, a_recv, a_snoc, a_nil, prI, prJ, prR, e_gi, e_gr, e_ai, e_ar, s_as, s_aop, s_pf, s_pfz, s_fop, l_set, l_ok, e_div, e_rem, e_len, s_tab, g_103_13, s, rc_103, y, cz, ck, b2i]
  · have cz : ¬ z = 59 := fun r => ck (q.mp r)
    simp [sgE, m_den, l0, Value.category, s_seq, s_if, s_st, s_ret, s_retz, s_retv, s_skip, s_sc, s_inc, s_call, e_c, e_li, e_lr, e_lj, e_un, e_bin, e_if, e_b, b_not, b_and, b_or, b_of, e_call, a_recv, a_snoc, a_nil, prI, prJ, prR, e_gi, e_gr, e_ai, e_ar, s_as, s_aop, s_pf, s_pfz, s_fop, l_set, l_ok, e_div, e_rem, e_len, s_tab, g_103_13, s, rc_103, y, cz, ck, b2i]
theorem tx_cond (g : FN) {T : Nat → Nat} {t : Nat} {q : Nat × Bool} (h : cuR g T t q.1 q.2) (n : Int32) : WB_X7_text_1 [.ref 103, .int n] (memOf g) = some (decide (q.2 = false ∧ tK T t q.1 ≠ 0), memOf g) := by
  obtain ⟨c1, c2, c3, c4⟩ := h
  have hb := tk_b T c1
  have e := tE_ge T c1
  have ht := c2.2.1
  have l := c2.1
  have s := c3.1
  have q1 : (nI (tS T t q.1) < nI t) = (tS T t q.1 < t) := propext (nI_lt_iff (by omega) (by omega))
  have q2 : (tS T t q.1 < t) = (tK T t q.1 ≠ 0) := propext ⟨fun c d => by have := e.2.2.2.1 d; omega, fun c => (e.2.2.1 c).2⟩
  cases r : q.2 with
  | true =>
    rw [r] at c4
    simp [WB_X7_text_1, m_den, l0, Value.category, s_seq, s_if, s_st, s_ret, s_retz, s_retv, s_skip, s_sc, s_inc, s_call, e_c, e_li, e_lr, e_lj, e_un, e_bin, e_if, e_b, b_not, b_and, b_or, b_of, e_call, a_recv, a_snoc, a_nil, prI, prJ, prR, e_gi, e_gr, e_ai, e_ar, s_as, s_aop, s_pf, s_pfz, s_fop, l_set, l_ok, e_div, e_rem, e_len, s_tab, g_103_16, c4, b2i]
  | false =>
    rw [r] at c4
    by_cases ck : tK T t q.1 = 0
    · have ck1 : ¬ tS T t q.1 < t := by rw [q2]; exact fun c => c ck
      simp [WB_X7_text_1, m_den, l0, Value.category, s_seq, s_if, s_st, s_ret, s_retz, s_retv, s_skip, s_sc, s_inc, s_call, e_c, e_li, e_lr, e_lj, e_un, e_bin, e_if, e_b, b_not, b_and, b_or, b_of, e_call, a_recv, a_snoc, a_nil, prI, prJ, prR, e_gi, e_gr, e_ai, e_ar, s_as, s_aop, s_pf, s_pfz, s_fop, l_set, l_ok, e_div, e_rem, e_len, s_tab, g_103_16, c4, b2i, g_103_13, g_103_12, s, l, q1, ck1, ck]
    · have ck1 : tS T t q.1 < t := by rw [q2]; exact ck
      simp [WB_X7_text_1, m_den, l0, Value.category, s_seq, s_if, s_st, s_ret, s_retz, s_retv, s_skip, s_sc, s_inc, s_call, e_c, e_li, e_lr, e_lj, e_un, e_bin, e_if, e_b, b_not, b_and, b_or, b_of, e_call, a_recv, a_snoc, a_nil, prI, prJ, prR, e_gi, e_gr, e_ai, e_ar, s_as, s_aop, s_pf, s_pfz, s_fop, l_set, l_ok, e_div, e_rem, e_len, s_tab, g_103_16, c4, b2i, g_103_13, g_103_12, s, l, q1, ck1, ck]
theorem txs_eq : WS_X7_text_1 = (s_seq (s_call D_X7_needs 2 (a_recv 7 (a_snoc Value.int (a_snoc Value.ref a_nil (e_lr 0)) sgE)))
  (s_seq (s_call D_X7_item 1 (a_recv 7 (a_snoc Value.ref a_nil (e_lr 0))))
  (s_inc 1 (1)))) := rfl
theorem tx_body (g : FN) {T : Nat → Nat} {t p : Nat} (h : cuR g T t p false) (n : Nat) : ∃ g1, (∀ x, x ≠ 103 → g1 x = g x) ∧ (∀ y, ¬ (13 ≤ y ∧ y ≤ 16) → g1 103 y = g 103 y) ∧ cuR g1 T t (nd T t (decide (tK T t p = 3)) (p, false)).1 (nd T t (decide (tK T t p = 3)) (p, false)).2 ∧ ∀ g2, D_X7_item [.ref 103] (memOf g1) = some (.null, memOf g2) → WS_X7_text_1 [.ref 103, .int (nI n)] (memOf g) = some (.inl ([.ref 103, .int (nI (n + 1))], memOf g2)) := by
  have sg := fun L => sgE_ok g h L
  obtain ⟨g1, A1, A2, A3, A4⟩ := X7_needs' g (q := (p, false)) h (decide (tK T t p = 3))
  refine ⟨g1, A2, A3, A4, fun g2 hg => ?_⟩
  rw [txs_eq]
  generalize b2i (decide (tK T t p = 3)) = z at sg A1
  simp [m_den, l0, Value.category, s_seq, s_if, s_st, s_ret, s_retz, s_retv, s_skip, s_sc, s_inc, s_call, e_c, e_li, e_lr, e_lj, e_un, e_bin, e_if, e_b, b_not, b_and, b_or, b_of, e_call, a_recv, a_snoc, a_nil, prI, prJ, prR, e_gi, e_gr, e_ai, e_ar, s_as, s_aop, s_pf, s_pfz, s_fop, l_set, l_ok, e_div, e_rem, e_len, s_tab, rc_103, sg, A1, hg, nI_next]
