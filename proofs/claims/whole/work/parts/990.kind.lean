/-! the kind at hand -/
def ks (j : Nat) : List Nat := [w_chimney, w_baker, w_tanner, w_forge, w_oven, w_tar, w_kiln].getD j []
def wid (j : Nat) : Nat := [SPB + 100 + 14, SPB + 100 + 8, SPB + 100 + 9, SPB + 100 + 10, SPB + 100 + 11, SPB + 100 + 12, SPB + 100 + 13].getD j 0
theorem iw_ks {j : Nat} (h : j < 7) : isWd (wid j) (ks j) := by
  rcases (by omega : j = 0 ∨ j = 1 ∨ j = 2 ∨ j = 3 ∨ j = 4 ∨ j = 5 ∨ j = 6) with r | r | r | r | r | r | r <;> subst r
  · exact iw_chimney
  · exact iw_baker
  · exact iw_tanner
  · exact iw_forge
  · exact iw_oven
  · exact iw_tar
  · exact iw_kiln
theorem X1_wordOf {j : Nat} (h : j < 7) (f : FN) : D_X1_wordOf [.int (nI j)] (memOf f) = some (.ref (wid j), memOf f) := by
  rcases (by omega : j = 0 ∨ j = 1 ∨ j = 2 ∨ j = 3 ∨ j = 4 ∨ j = 5 ∨ j = 6) with r | r | r | r | r | r | r <;> subst r <;> rfl
noncomputable def kd (T : Nat → Nat) (t p : Nat) : Int32 := if wB T t p w_chimney = true then 0 else if wB T t p w_baker = true then 1 else if wB T t p w_tanner = true then 2 else if wB T t p w_forge = true then 3 else if wB T t p w_oven = true then 4 else if wB T t p w_tar = true then 5 else if wB T t p w_kiln = true then 6 else -1
theorem X7_kindHere (f : FN) {T : Nat → Nat} {t p : Nat} {w : Bool} (h : cuR f T t p w) (ht : t ≤ 120) : D_X7_kindHere [.ref 103] (memOf f) = some (.int (if w then -1 else kd T t p), memOf f) := by
  have hw := X7_wordC f h
  cases w with
  | true =>
    simp only [if_true] at hw
    simp [D_X7_kindHere, S_X7_kindHere, m_den, l0, Value.category, s_seq, s_if, s_st, s_ret, s_retz, s_retv, s_skip, s_sc, s_inc, s_call, e_c, e_li, e_lr, e_lj, e_un, e_bin, e_if, e_b, b_not, b_and, b_or, b_of, e_call, a_recv, a_snoc, a_nil, prI, prJ, prR, e_gi, e_gr, e_ai, e_ar, s_as, s_aop, s_pf, s_pfz, s_fop, l_set, l_ok, e_div, e_rem, e_len, s_tab, s_stj, rc_103, hw, lg_zero]
  | false =>
    simp only [Bool.false_eq_true, if_false] at hw
    simp [D_X7_kindHere, S_X7_kindHere, m_den, l0, Value.category, s_seq, s_if, s_st, s_ret, s_retz, s_retv, s_skip, s_sc, s_inc, s_call, e_c, e_li, e_lr, e_lj, e_un, e_bin, e_if, e_b, b_not, b_and, b_or, b_of, e_call, a_recv, a_snoc, a_nil, prI, prJ, prR, e_gi, e_gr, e_ai, e_ar, s_as, s_aop, s_pf, s_pfz, s_fop, l_set, l_ok, e_div, e_rem, e_len, s_tab, s_stj, rc_103, hw, lg_zero, wc_chimney T h.1 ht, wc_baker T h.1 ht, wc_tanner T h.1 ht, wc_forge T h.1 ht, wc_oven T h.1 ht, wc_tar T h.1 ht, wc_kiln T h.1 ht, kd]
    by_cases c0 : wB T t p w_chimney = true
    · simp [c0]
    · by_cases c1 : wB T t p w_baker = true
      · simp [c0, c1]
      · by_cases c2 : wB T t p w_tanner = true
        · simp [c0, c1, c2]
        · by_cases c3 : wB T t p w_forge = true
          · simp [c0, c1, c2, c3]
          · by_cases c4 : wB T t p w_oven = true
            · simp [c0, c1, c2, c3, c4]
            · by_cases c5 : wB T t p w_tar = true
              · simp [c0, c1, c2, c3, c4, c5]
              · by_cases c6 : wB T t p w_kiln = true
                · simp [c0, c1, c2, c3, c4, c5, c6]
                · simp [c0, c1, c2, c3, c4, c5, c6]
theorem kd_is (T : Nat → Nat) (t p : Nat) {K : Nat} (hK : K < 7) (hz : wB T t p (ks K) = true) (hn : ∀ i, i < K → ¬ wB T t p (ks i) = true) : kd T t p = nI K := by
  unfold kd
  by_cases c0 : wB T t p w_chimney = true
  · have : K = 0 := Classical.byContradiction fun q => hn 0 (by omega) c0
    subst this; rw [if_pos c0]; rfl
  · rw [if_neg c0]
    by_cases c1 : wB T t p w_baker = true
    · have : K = 1 := by
        rcases (by omega : K = 0 ∨ K = 1 ∨ 1 < K) with q | q | q
        · subst q; exact absurd hz c0
        · exact q
        · exact absurd c1 (hn 1 q)
      subst this; rw [if_pos c1]; rfl
    · rw [if_neg c1]
      by_cases c2 : wB T t p w_tanner = true
      · have : K = 2 := by
          rcases (by omega : K = 0 ∨ K = 1 ∨ K = 2 ∨ 2 < K) with q | q | q | q
          · subst q; exact absurd hz c0
          · subst q; exact absurd hz c1
          · exact q
          · exact absurd c2 (hn 2 q)
        subst this; rw [if_pos c2]; rfl
      · rw [if_neg c2]
        by_cases c3 : wB T t p w_forge = true
        · have : K = 3 := by
            rcases (by omega : K = 0 ∨ K = 1 ∨ K = 2 ∨ K = 3 ∨ 3 < K) with q | q | q | q | q
            · subst q; exact absurd hz c0
            · subst q; exact absurd hz c1
            · subst q; exact absurd hz c2
            · exact q
            · exact absurd c3 (hn 3 q)
          subst this; rw [if_pos c3]; rfl
        · rw [if_neg c3]
          by_cases c4 : wB T t p w_oven = true
          · have : K = 4 := by
              rcases (by omega : K = 0 ∨ K = 1 ∨ K = 2 ∨ K = 3 ∨ K = 4 ∨ 4 < K) with q | q | q | q | q | q
              · subst q; exact absurd hz c0
              · subst q; exact absurd hz c1
              · subst q; exact absurd hz c2
              · subst q; exact absurd hz c3
              · exact q
              · exact absurd c4 (hn 4 q)
            subst this; rw [if_pos c4]; rfl
          · rw [if_neg c4]
            by_cases c5 : wB T t p w_tar = true
            · have : K = 5 := by
                rcases (by omega : K = 0 ∨ K = 1 ∨ K = 2 ∨ K = 3 ∨ K = 4 ∨ K = 5 ∨ 5 < K) with q | q | q | q | q | q | q
                · subst q; exact absurd hz c0
                · subst q; exact absurd hz c1
                · subst q; exact absurd hz c2
                · subst q; exact absurd hz c3
                · subst q; exact absurd hz c4
                · exact q
                · exact absurd c5 (hn 5 q)
              subst this; rw [if_pos c5]; rfl
            · rw [if_neg c5]
              have : K = 6 := by
                rcases (by omega : K = 0 ∨ K = 1 ∨ K = 2 ∨ K = 3 ∨ K = 4 ∨ K = 5 ∨ K = 6) with q | q | q | q | q | q | q
                · subst q; exact absurd hz c0
                · subst q; exact absurd hz c1
                · subst q; exact absurd hz c2
                · subst q; exact absurd hz c3
                · subst q; exact absurd hz c4
                · subst q; exact absurd hz c5
                · exact q
              subst this
              rw [if_pos (show wB T t p w_kiln = true from hz)]; rfl
theorem kd_no (T : Nat → Nat) (t p : Nat) (hn : ∀ i, i < 7 → ¬ wB T t p (ks i) = true) : kd T t p = -1 := by
  unfold kd
  have h0 : ¬ wB T t p w_chimney = true := hn 0 (by omega)
  have h1 : ¬ wB T t p w_baker = true := hn 1 (by omega)
  have h2 : ¬ wB T t p w_tanner = true := hn 2 (by omega)
  have h3 : ¬ wB T t p w_forge = true := hn 3 (by omega)
  have h4 : ¬ wB T t p w_oven = true := hn 4 (by omega)
  have h5 : ¬ wB T t p w_tar = true := hn 5 (by omega)
  have h6 : ¬ wB T t p w_kiln = true := hn 6 (by omega)
  rw [if_neg h0, if_neg h1, if_neg h2, if_neg h3, if_neg h4, if_neg h5, if_neg h6]
theorem X1_kindAtHand (f : FN) {T : Nat → Nat} {t p : Nat} {w : Bool} (h : cuX f T t p w) : D_X1_kindAtHand [.ref 77] (memOf f) = some (.int (kd T t p), memOf f) := by
  have step : ∀ i, i < 7 → ∀ id, id = wid i → D_X4_isWord [.ref 78, .ref id] (memOf f) = some (.int (b2i (wB T t p (ks i))), memOf f) := fun i hi id e => e ▸ X4_isWord f h.2.1 h.2.2.1 (tk_b T h.1) (iw_ks hi)
  have hb : ∀ i g, i < 7 → g = f → WB_X1_kindAtHand_1 [.ref 77, .int (nI i)] (memOf g) = some (true, memOf g) := fun i g hi _ => by
    have : nI i < (7 : Int32) := (nI_lt_iff (a := i) (b := 7) (by omega) (by omega)).mpr hi
    simp [WB_X1_kindAtHand_1, m_den, l0, Value.category, s_seq, s_if, s_st, s_ret, s_retz, s_retv, s_skip, s_sc, s_inc, s_call, e_c, e_li, e_lr, e_lj, e_un, e_bin, e_if, e_b, b_not, b_and, b_or, b_of, e_call, a_recv, a_snoc, a_nil, prI, prJ, prR, e_gi, e_gr, e_ai, e_ar, s_as, s_aop, s_pf, s_pfz, s_fop, l_set, l_ok, e_div, e_rem, e_len, s_tab, this]
  have hs : ∀ i g, i < 7 → ¬ wB T t p (ks i) = true → g = f → ∃ g', WS_X1_kindAtHand_1 [.ref 77, .int (nI i)] (memOf g) = some (.inl ([.ref 77, .int (nI (i + 1))], memOf g')) ∧ g' = f := fun i g hi hn e => by
    subst e
    have hn' : wB T t p (ks i) = false := by cases q : wB T t p (ks i) <;> simp_all
    have s1 := step i hi (wid i) rfl
    rw [hn'] at s1
    have s2 := X1_wordOf hi g
    generalize wid i = id at s1 s2
    refine ⟨g, ?_, rfl⟩
    simp [WS_X1_kindAtHand_1, m_den, l0, Value.category, s_seq, s_if, s_st, s_ret, s_retz, s_retv, s_skip, s_sc, s_inc, s_call, e_c, e_li, e_lr, e_lj, e_un, e_bin, e_if, e_b, b_not, b_and, b_or, b_of, e_call, a_recv, a_snoc, a_nil, prI, prJ, prR, e_gi, e_gr, e_ai, e_ar, s_as, s_aop, s_pf, s_pfz, s_fop, l_set, l_ok, e_div, e_rem, e_len, s_tab, g_77_0, rc_78, s1, s2, b2i, nI_next]
  rcases first_ex (fun i => wB T t p (ks i) = true) 6 with ⟨K, hK, hz, hlt⟩ | hno
  · rw [kd_is T t p (by omega) hz hlt]
    obtain ⟨v, g, A1, A2, A3⟩ := while_rret (fun i => [.ref 77, .int (nI i)]) (fun _ g => g = f) (fun v g => v = .int (nI K) ∧ g = f) K (by unfold FU; omega) (fun i g hi e => hb i g (by omega) e) (fun i g hi e => hs i g (by omega) (hlt i hi) e) (fun g e => by
      subst e
      have s1 := step K (by omega) (wid K) rfl
      rw [hz] at s1
      have s2 := X1_wordOf (by omega : K < 7) g
      generalize wid K = id at s1 s2
      refine ⟨_, g, ?_, rfl, rfl⟩
      simp [WS_X1_kindAtHand_1, m_den, l0, Value.category, s_seq, s_if, s_st, s_ret, s_retz, s_retv, s_skip, s_sc, s_inc, s_call, e_c, e_li, e_lr, e_lj, e_un, e_bin, e_if, e_b, b_not, b_and, b_or, b_of, e_call, a_recv, a_snoc, a_nil, prI, prJ, prR, e_gi, e_gr, e_ai, e_ar, s_as, s_aop, s_pf, s_pfz, s_fop, l_set, l_ok, e_div, e_rem, e_len, s_tab, g_77_0, rc_78, s1, s2, b2i]) (f := f) rfl
    subst A3
    rw [A2] at A1
    have A1' : W_X1_kindAtHand_1 [.ref 77, .int 0] (memOf g) = some (.inr (.int (nI K), memOf g)) := A1
    simp [D_X1_kindAtHand, S_X1_kindAtHand, m_den, l0, Value.category, s_seq, s_if, s_st, s_ret, s_retz, s_retv, s_skip, s_sc, s_inc, s_call, e_c, e_li, e_lr, e_lj, e_un, e_bin, e_if, e_b, b_not, b_and, b_or, b_of, e_call, a_recv, a_snoc, a_nil, prI, prJ, prR, e_gi, e_gr, e_ai, e_ar, s_as, s_aop, s_pf, s_pfz, s_fop, l_set, l_ok, e_div, e_rem, e_len, s_tab, A1']
  · rw [kd_no T t p (fun i hi => hno i (by omega))]
    obtain ⟨g, A1, A2⟩ := while_rel (fun i => [.ref 77, .int (nI i)]) (fun _ g => g = f) 7 (by unfold FU; omega) (fun i g hi e => hb i g hi e) (fun i g hi e => hs i g hi (hno i (by omega)) e) (fun g e => by
      subst e
      have n7 : ¬ nI 7 < (7 : Int32) := by decide
      simp [WB_X1_kindAtHand_1, m_den, l0, Value.category, s_seq, s_if, s_st, s_ret, s_retz, s_retv, s_skip, s_sc, s_inc, s_call, e_c, e_li, e_lr, e_lj, e_un, e_bin, e_if, e_b, b_not, b_and, b_or, b_of, e_call, a_recv, a_snoc, a_nil, prI, prJ, prR, e_gi, e_gr, e_ai, e_ar, s_as, s_aop, s_pf, s_pfz, s_fop, l_set, l_ok, e_div, e_rem, e_len, s_tab, n7]) (f := f) rfl
    subst A2
    have A1' : W_X1_kindAtHand_1 [.ref 77, .int 0] (memOf g) = some (.inl ([.ref 77, .int (nI 7)], memOf g)) := A1
    simp [D_X1_kindAtHand, S_X1_kindAtHand, m_den, l0, Value.category, s_seq, s_if, s_st, s_ret, s_retz, s_retv, s_skip, s_sc, s_inc, s_call, e_c, e_li, e_lr, e_lj, e_un, e_bin, e_if, e_b, b_not, b_and, b_or, b_of, e_call, a_recv, a_snoc, a_nil, prI, prJ, prR, e_gi, e_gr, e_ai, e_ar, s_as, s_aop, s_pf, s_pfz, s_fop, l_set, l_ok, e_div, e_rem, e_len, s_tab, A1']
