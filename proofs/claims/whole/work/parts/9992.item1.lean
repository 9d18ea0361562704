/-! the class's item, both readings -/
theorem X1_wind_X (f : FN) {T : Nat → Nat} {t : Nat} {q : Nat × Bool} (h : cuX f T t q.1 q.2) (hs : f 77 1 = 0) : ∃ g, D_X1_readWind [.ref 77, .ref 1] (memOf f) = some (.null, memOf g) ∧ (∀ x, x ≠ 78 → g x = f x) ∧ cuX g T t (wnX T t q).1 (wnX T t q).2 := by
  obtain ⟨a, K, g, A1, A2, A3, A4, A5, A6, A7⟩ := X1_readWind0 f h hs
  refine ⟨g, A1, A2, ?_⟩
  cases r : (nm T t 23 q).2 with
  | true =>
    rw [wq_wr r] at A7
    unfold wnX
    rw [wq_wr r]
    exact A7
  | false =>
    have ea := A4 r
    subst ea
    have ek := wdK_is A5 A6
    subst ek
    exact A7
theorem itX_told {T : Nat → Nat} {t p m : Nat} : (itX T t p m).2 = false → (wB T t p w_roof = true ∨ wB T t p w_wind = true) ∨ (¬ wB T t p w_roof = true ∧ ¬ wB T t p w_wind = true ∧ 0 ≤ kd T t p ∧ m < 8 ∧ (chP T t (tE T t p, false)).2 = false) := fun c => by
  by_cases c1 : wB T t p w_roof = true
  · exact Or.inl (Or.inl c1)
  · by_cases c2 : wB T t p w_wind = true
    · exact Or.inl (Or.inr c2)
    · unfold itX at c
      rw [if_neg c1, if_neg c2] at c
      by_cases c3 : 0 ≤ kd T t p ∧ m < 8
      · rw [if_pos c3] at c; exact Or.inr ⟨c1, c2, c3.1, c3.2, c⟩
      · rw [if_neg c3] at c; exact tf_no c
theorem itM_roof {T : Nat → Nat} {t p m : Nat} (h : wB T t p w_roof = true ∨ wB T t p w_wind = true) : itM T t p m = m := by
  have e : kd T t p = -1 := h.elim kd_roof kd_wind
  unfold itM
  rw [e, if_neg (by decide)]
theorem itM_kd {T : Nat → Nat} {t p m : Nat} (h : 0 ≤ kd T t p) : itM T t p m = m + 1 := by unfold itM; rw [if_pos h]
theorem X1_readItem0 (f : FN) {T : Nat → Nat} {t p m : Nat} (h : cuX f T t p false) (hs : f 77 1 = 0) (e2 : f 77 2 = nI m) (hm : m ≤ 8) : ∃ g, D_X1_readItem [.ref 77, .ref 1] (memOf f) = some (.null, memOf g) ∧ (∀ x, x ≠ 77 → x ≠ 78 → g x = f x) ∧ g 77 1 = 0 ∧ ((itX T t p m).2 = false → g 77 2 = nI (itM T t p m)) ∧ cuX g T t (itX T t p m).1 (itX T t p m).2 := by
  have kh := X1_kindAtHand f h
  obtain ⟨b1, g1, eb1, A1, A2, A3, A4⟩ := X4_passWord' f (q := (p, false)) h iw_roof
  have A1' : D_X4_passWord [.ref 78, .ref (SPB + 100)] (memOf f) = some (.int (b2i b1), memOf g1) := A1
  have eb1' : b1 = wB T t p w_roof := eb1
  cases b1 with
  | true =>
    have c1 : wB T t p w_roof = true := eb1'.symm
    obtain ⟨-, A5⟩ := A3 rfl
    rw [nd_tf] at A5
    obtain ⟨a, v, g, B1, B2, B3, -, -, -⟩ := X1_readRoof g1 (q := (tE T t p, false)) A5 false (by rw [A2 77 (by omega)]; exact hs)
    have e : ∀ x, x ≠ 78 → g x = f x := fun x hx => by rw [B2 x hx]; exact A2 x hx
    refine ⟨g, ?_, fun x _ hx => e x hx, by rw [e 77 (by omega)]; exact hs, fun _ => by rw [e 77 (by omega), itM_roof (Or.inl c1)]; exact e2, ?_⟩
    · generalize kd T t p = k at kh
      simp [D_X1_readItem, S_X1_readItem, m_den, l0, Value.category, s_seq, s_if, s_st, s_ret, s_retz, s_retv, s_skip, s_sc, s_inc, s_call, e_c, e_li, e_lr, e_lj, e_un, e_bin, e_if, e_b, b_not, b_and, b_or, b_of, e_call, a_recv, a_snoc, a_nil, prI, prJ, prR, e_gi, e_gr, e_ai, e_ar, s_as, s_aop, s_pf, s_pfz, s_fop, l_set, l_ok, e_div, e_rem, e_len, s_tab, rc_77, kh, g_77_0, rc_78, A1', b2i, B1]
    · unfold itX; rw [if_pos c1]; exact B3
  | false =>
    have c1 : ¬ wB T t p w_roof = true := by rw [← eb1']; decide
    obtain ⟨b2, g2, eb2, B1, B2, B3, B4⟩ := X4_passWord' g1 (q := (p, false)) (A4 rfl) iw_wind
    have B1' : D_X4_passWord [.ref 78, .ref (SPB + 101)] (memOf g1) = some (.int (b2i b2), memOf g2) := B1
    have eb2' : b2 = wB T t p w_wind := eb2
    have f2 : ∀ x, x ≠ 78 → g2 x = f x := fun x hx => by rw [B2 x hx, A2 x hx]
    cases b2 with
    | true =>
      have c2 : wB T t p w_wind = true := eb2'.symm
      obtain ⟨-, B5⟩ := B3 rfl
      rw [nd_tf] at B5
      obtain ⟨g, C1, C2, C3⟩ := X1_wind_X g2 (q := (tE T t p, false)) B5 (by rw [f2 77 (by omega)]; exact hs)
      have e : ∀ x, x ≠ 78 → g x = f x := fun x hx => by rw [C2 x hx, f2 x hx]
      refine ⟨g, ?_, fun x _ hx => e x hx, by rw [e 77 (by omega)]; exact hs, fun _ => by rw [e 77 (by omega), itM_roof (Or.inr c2)]; exact e2, ?_⟩
      · generalize kd T t p = k at kh
        simp [D_X1_readItem, S_X1_readItem, m_den, l0, Value.category, s_seq, s_if, s_st, s_ret, s_retz, s_retv, s_skip, s_sc, s_inc, s_call, e_c, e_li, e_lr, e_lj, e_un, e_bin, e_if, e_b, b_not, b_and, b_or, b_of, e_call, a_recv, a_snoc, a_nil, prI, prJ, prR, e_gi, e_gr, e_ai, e_ar, s_as, s_aop, s_pf, s_pfz, s_fop, l_set, l_ok, e_div, e_rem, e_len, s_tab, rc_77, kh, g_77_0, rc_78, A1', B1', b2i, C1]
      · unfold itX; rw [if_neg c1, if_pos c2]; exact C3
    | false =>
      have c2 : ¬ wB T t p w_wind = true := by rw [← eb2']; decide
      have B5 := B4 rfl
      have t2 : g2 77 2 = nI m := by rw [f2 77 (by omega)]; exact e2
      have q8 : (nI m < (8 : Int32)) = (m < 8) := propext (nI_lt_iff (a := m) (b := 8) (by omega) (by omega))
      by_cases c3 : 0 ≤ kd T t p ∧ m < 8
      · obtain ⟨g3, C1, C2, C3⟩ := X4_nextC g2 B5
        obtain ⟨g, D1, D2, D3, D4⟩ := X1_readChimney0 g3 (q := (tE T t p, false)) C3 (kd T t p) (by rw [C2 77 (by omega), f2 77 (by omega)]; exact hs)
        have e77 : g3 77 = f 77 := by rw [C2 77 (by omega), f2 77 (by omega)]
        refine ⟨g, ?_, fun x h1 h2 => by rw [D2 x h1 h2, C2 x h2, f2 x h2], by rw [D3, upd_ne _ _ (by omega), e77]; exact hs, fun _ => by rw [D3, upd_self, e77, e2, nI_next, itM_kd c3.1], ?_⟩
        · have k0 := c3.1
          have k1 := c3.2
          generalize kd T t p = k at kh k0 D1
          simp [D_X1_readItem, S_X1_readItem, m_den, l0, Value.category, s_seq, s_if, s_st, s_ret, s_retz, s_retv, s_skip, s_sc, s_inc, s_call, e_c, e_li, e_lr, e_lj, e_un, e_bin, e_if, e_b, b_not, b_and, b_or, b_of, e_call, a_recv, a_snoc, a_nil, prI, prJ, prR, e_gi, e_gr, e_ai, e_ar, s_as, s_aop, s_pf, s_pfz, s_fop, l_set, l_ok, e_div, e_rem, e_len, s_tab, rc_77, kh, g_77_0, rc_78, A1', B1', b2i, k0, g_77_2, t2, q8, k1, C1, D1]
        · unfold itX; rw [if_neg c1, if_neg c2, if_pos c3]; exact D4
      · obtain ⟨g, C1, C2, C3⟩ := X4_failC g2 B5
        have ei : itX T t p m = (p, true) := by unfold itX; rw [if_neg c1, if_neg c2, if_neg c3]
        refine ⟨g, ?_, fun x h1 h2 => by rw [C2 x h2, f2 x h2], by rw [C2 77 (by omega), f2 77 (by omega)]; exact hs, fun c => ?_, by rw [ei]; exact C3⟩
        · generalize kd T t p = k at kh c3
          by_cases k0 : 0 ≤ k
          · have k1 : ¬ m < 8 := fun c => c3 ⟨k0, c⟩
            simp [D_X1_readItem, S_X1_readItem, m_den, l0, Value.category, s_seq, s_if, s_st, s_ret, s_retz, s_retv, s_skip, s_sc, s_inc, s_call, e_c, e_li, e_lr, e_lj, e_un, e_bin, e_if, e_b, b_not, b_and, b_or, b_of, e_call, a_recv, a_snoc, a_nil, prI, prJ, prR, e_gi, e_gr, e_ai, e_ar, s_as, s_aop, s_pf, s_pfz, s_fop, l_set, l_ok, e_div, e_rem, e_len, s_tab, rc_77, kh, g_77_0, rc_78, A1', B1', b2i, k0, g_77_2, t2, q8, k1, C1]
          · simp [D_X1_readItem, S_X1_readItem, m_den, l0, Value.category, s_seq, s_if, s_st, s_ret, s_retz, s_retv, s_skip, s_sc, s_inc, s_call, e_c, e_li, e_lr, e_lj, e_un, e_bin, e_if, e_b, b_not, b_and, b_or, b_of, e_call, a_recv, a_snoc, a_nil, prI, prJ, prR, e_gi, e_gr, e_ai, e_ar, s_as, s_aop, s_pf, s_pfz, s_fop, l_set, l_ok, e_div, e_rem, e_len, s_tab, rc_77, kh, g_77_0, rc_78, A1', B1', b2i, k0, C1]
        · rw [ei] at c; exact tf_no c
theorem X1_readItem1 (f : FN) {T : Nat → Nat} {t p m : Nat} (h : cuX f T t p false) (hs : f 77 1 = 1) (e2 : f 77 2 = nI m) (em : f 1 2 = nI m) (hok : (itX T t p m).2 = false) : ∃ g, D_X1_readItem [.ref 77, .ref 1] (memOf f) = some (.null, memOf g) ∧ (∀ x, x < 39 → g x = efX T t p m f x) ∧ (∀ x, ¬ x < 39 → x ≠ 77 → x ≠ 78 → g x = f x) ∧ g 77 1 = 1 ∧ g 77 2 = nI (itM T t p m) ∧ cuX g T t (itX T t p m).1 (itX T t p m).2 := by
  have kh := X1_kindAtHand f h
  obtain ⟨b1, g1, eb1, A1, A2, A3, A4⟩ := X4_passWord' f (q := (p, false)) h iw_roof
  have A1' : D_X4_passWord [.ref 78, .ref (SPB + 100)] (memOf f) = some (.int (b2i b1), memOf g1) := A1
  have eb1' : b1 = wB T t p w_roof := eb1
  cases b1 with
  | true =>
    have c1 : wB T t p w_roof = true := eb1'.symm
    obtain ⟨-, A5⟩ := A3 rfl
    rw [nd_tf] at A5
    obtain ⟨a, v, g, B1, B2, B3, -, -, B6⟩ := X1_readRoof g1 (q := (tE T t p, false)) A5 true (by rw [A2 77 (by omega)]; exact hs)
    have ei : itX T t p m = rfP T t (tE T t p, false) := by unfold itX; rw [if_pos c1]
    rw [ei] at hok ⊢
    obtain ⟨rfl, rfl⟩ := B6 hok
    simp only [if_true] at B2
    have e : ∀ x, x ≠ 2 → x ≠ 78 → g x = f x := fun x h1 hx => by rw [B2 x hx, row_ne _ _ h1]; exact A2 x hx
    refine ⟨g, ?_, fun x hx => ?_, fun x h0 h1 h2 => e x (by omega) h2, by rw [e 77 (by omega) (by omega)]; exact hs, by rw [e 77 (by omega) (by omega), itM_roof (Or.inl c1)]; exact e2, B3⟩
    · generalize kd T t p = k at kh
      simp [D_X1_readItem, S_X1_readItem, m_den, l0, Value.category, s_seq, s_if, s_st, s_ret, s_retz, s_retv, s_skip, s_sc, s_inc, s_call, e_c, e_li, e_lr, e_lj, e_un, e_bin, e_if, e_b, b_not, b_and, b_or, b_of, e_call, a_recv, a_snoc, a_nil, prI, prJ, prR, e_gi, e_gr, e_ai, e_ar, s_as, s_aop, s_pf, s_pfz, s_fop, l_set, l_ok, e_div, e_rem, e_len, s_tab, rc_77, kh, g_77_0, rc_78, A1', b2i, B1]
    · unfold efX
      rw [if_pos c1, B2 x (by omega)]
      by_cases cx : x = 2
      · subst cx; rw [row_self, row_self, A2 2 (by omega)]; rfl
      · rw [row_ne _ _ cx, row_ne _ _ cx, A2 x (by omega)]
  | false =>
    have c1 : ¬ wB T t p w_roof = true := by rw [← eb1']; decide
    obtain ⟨b2, g2, eb2, B1, B2, B3, B4⟩ := X4_passWord' g1 (q := (p, false)) (A4 rfl) iw_wind
    have B1' : D_X4_passWord [.ref 78, .ref (SPB + 101)] (memOf g1) = some (.int (b2i b2), memOf g2) := B1
    have eb2' : b2 = wB T t p w_wind := eb2
    have f2 : ∀ x, x ≠ 78 → g2 x = f x := fun x hx => by rw [B2 x hx, A2 x hx]
    cases b2 with
    | true =>
      have c2 : wB T t p w_wind = true := eb2'.symm
      obtain ⟨-, B5⟩ := B3 rfl
      rw [nd_tf] at B5
      have ei : itX T t p m = wnX T t (tE T t p, false) := by unfold itX; rw [if_neg c1, if_pos c2]
      rw [ei] at hok ⊢
      obtain ⟨k1, k2, k3⟩ := wdK_ok T t (nm T t 23 (tE T t p, false)) (nN T t (tE T t p, false).1)
      obtain ⟨g, C1, C2, C3⟩ := X1_readWind1 g2 (q := (tE T t p, false)) B5 (by rw [f2 77 (by omega)]; exact hs) k1 k2 k3 hok
      have e : ∀ x, x ≠ 3 → x ≠ 78 → g x = f x := fun x h1 hx => by rw [C2 x hx, row_ne _ _ h1]; exact f2 x hx
      refine ⟨g, ?_, fun x hx => ?_, fun x h0 h1 h2 => e x (by omega) h2, by rw [e 77 (by omega) (by omega)]; exact hs, by rw [e 77 (by omega) (by omega), itM_roof (Or.inr c2)]; exact e2, C3⟩
      · generalize kd T t p = k at kh
        simp [D_X1_readItem, S_X1_readItem, m_den, l0, Value.category, s_seq, s_if, s_st, s_ret, s_retz, s_retv, s_skip, s_sc, s_inc, s_call, e_c, e_li, e_lr, e_lj, e_un, e_bin, e_if, e_b, b_not, b_and, b_or, b_of, e_call, a_recv, a_snoc, a_nil, prI, prJ, prR, e_gi, e_gr, e_ai, e_ar, s_as, s_aop, s_pf, s_pfz, s_fop, l_set, l_ok, e_div, e_rem, e_len, s_tab, rc_77, kh, g_77_0, rc_78, A1', B1', b2i, C1]
      · unfold efX
        rw [if_neg c1, if_pos c2, C2 x (by omega)]
        by_cases cx : x = 3
        · subst cx; rw [row_self, row_self, f2 3 (by omega)]
        · rw [row_ne _ _ cx, row_ne _ _ cx, f2 x (by omega)]
    | false =>
      have c2 : ¬ wB T t p w_wind = true := by rw [← eb2']; decide
      have B5 := B4 rfl
      have t2 : g2 77 2 = nI m := by rw [f2 77 (by omega)]; exact e2
      obtain ⟨k0, k1, k2⟩ : 0 ≤ kd T t p ∧ m < 8 ∧ (chP T t (tE T t p, false)).2 = false := by
        rcases itX_told hok with (c | c) | c
        · exact absurd c c1
        · exact absurd c c2
        · exact c.2.2
      have ei : itX T t p m = chP T t (tE T t p, false) := by unfold itX; rw [if_neg c1, if_neg c2, if_pos ⟨k0, k1⟩]
      have q8 : (nI m < (8 : Int32)) = (m < 8) := propext (nI_lt_iff (a := m) (b := 8) (by omega) (by omega))
      obtain ⟨g3, C1, C2, C3⟩ := X4_nextC g2 B5
      have f3 : ∀ x, x ≠ 78 → g3 x = f x := fun x hx => by rw [C2 x hx, f2 x hx]
      obtain ⟨g, D1, D2, D3, D4, D5⟩ := X1_readChimney1 g3 (q := (tE T t p, false)) (m := m) C3 k1 (by rw [f3 1 (by omega)]; exact em) (kd T t p) (by rw [f3 77 (by omega)]; exact hs) k2
      refine ⟨g, ?_, fun x hx => ?_, fun x h0 h1 h2 => by rw [D3 x h0 h1 h2, f3 x h2], by rw [D4, upd_ne _ _ (by omega), f3 77 (by omega)]; exact hs, by rw [D4, upd_self, f3 77 (by omega), e2, nI_next, itM_kd k0], by rw [ei]; exact D5⟩
      · generalize kd T t p = k at kh k0 D1
        simp [D_X1_readItem, S_X1_readItem, m_den, l0, Value.category, s_seq, s_if, s_st, s_ret, s_retz, s_retv, s_skip, s_sc, s_inc, s_call, e_c, e_li, e_lr, e_lj, e_un, e_bin, e_if, e_b, b_not, b_and, b_or, b_of, e_call, a_recv, a_snoc, a_nil, prI, prJ, prR, e_gi, e_gr, e_ai, e_ar, s_as, s_aop, s_pf, s_pfz, s_fop, l_set, l_ok, e_div, e_rem, e_len, s_tab, rc_77, kh, g_77_0, rc_78, A1', B1', b2i, k0, g_77_2, t2, q8, k1, C1, D1]
      · unfold efX
        rw [if_neg c1, if_neg c2, D2 x hx]
        exact chX_congr k1 (fun x hx => f3 x (by omega)) _ _ _ _ _ _ _ x hx
