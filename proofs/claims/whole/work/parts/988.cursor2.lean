/-! the cursor: numbers, and the reference's side -/
noncomputable def nN (T : Nat → Nat) (t p : Nat) : Nat := nv T (tS T t p) (tE T t p - tS T t p)
noncomputable def nK (T : Nat → Nat) (t p most : Nat) : Bool := decide (tK T t p = 2 ∧ nN T t p ≤ most)
theorem tk_dig (T : Nat → Nat) {t p : Nat} (h : p ≤ t) (hk : tK T t p = 2) : ∀ i, tS T t p ≤ i → i < tE T t p → 48 ≤ T i ∧ T i ≤ 57 := by
  obtain ⟨⟨a, b⟩, c, d, e⟩ := tk_ok T h
  rcases e with ⟨e1, e2, e3⟩ | ⟨e1, e2, e3, e4, e5, e6⟩
  · omega
  · intro i h1 h2
    have := e6 (Or.inr hk)
    by_cases q : i = tS T t p
    · subst q; exact (srt_2 _).mp (by rw [← e2]; exact hk)
    · exact (srt_2 _).mp (by rw [this.1 i (by omega) h2]; exact hk)
theorem tk_let (T : Nat → Nat) {t p : Nat} (h : p ≤ t) (j : Nat) (hj : j = 1 ∨ j = 2) : letB T t (tS T t p) j = decide (tK T t p = j) := by
  obtain ⟨⟨a, b⟩, c, d, e⟩ := tk_ok T h
  unfold letB
  rw [decide_eq_decide]
  rcases e with ⟨e1, e2, e3⟩ | ⟨e1, e2, e3, e4, e5, e6⟩
  · omega
  · rw [e2]
    exact ⟨fun q => q.2, fun q => ⟨e1, q⟩⟩
def nhE : DE Int32 := e_if (e_bin (fun (x y : Int32) => decide (x = y)) (e_gi 4 3 (e_lr 0)) (e_c (2 : Int32))) (e_call prI D_X4_numberAtHand 1 (a_recv 4 (a_snoc Value.ref a_nil (e_lr 0)))) (e_c (-1 : Int32))
theorem nn_eq : S_X4_needNumber = s_seq (s_st Value.int 2 nhE) (s_seq (s_if (b_or (b_or (b_of (e_call prI D_X4_hasFault 1 (a_recv 4 (a_snoc Value.ref a_nil (e_lr 0))))) (e_un (fun (x : Int32) => decide (x < 0)) (e_li 2))) (e_bin (fun (x y : Int32) => decide (y < x)) (e_li 2) (e_li 1))) (s_seq (s_call D_X4_fail 1 (a_recv 4 (a_snoc Value.ref a_nil (e_lr 0)))) (s_ret Value.int (e_c (0 : Int32)))) s_skip) (s_seq (s_call D_X4_next 1 (a_recv 4 (a_snoc Value.ref a_nil (e_lr 0)))) (s_ret Value.int (e_li 2)))) := rfl
theorem X4_needNumber (f : FN) {T : Nat → Nat} {t p most : Nat} {w : Bool} (h : cuX f T t p w) (hm : most ≤ 99) : ∃ g, D_X4_needNumber [.ref 78, .int (nI most)] (memOf f) = some (.int (nI (if (!w && nK T t p most) = true then nN T t p else 0)), memOf g) ∧ (∀ x, x ≠ 78 → g x = f x) ∧ cuX g T t (nd T t (nK T t p most) (p, w)).1 (nd T t (nK T t p most) (p, w)).2 := by
  have hf := h.fault
  have ha := X4_hasFault f
  have hk := tk_b T h.1
  have t120 := h.2.1.2.1
  have k3 := h.2.2.1.1
  have q2 : (nI (tK T t p) = (2 : Int32)) = (tK T t p = 2) := propext (nI_inj (a := tK T t p) (b := 2) (by omega) (by omega))
  -- the number at hand
  have NH : ∃ z : Int32, nhE [.ref 78, .int (nI most)] (memOf f) = some (z, memOf f) ∧ ((z < 0 ∨ nI most < z) ↔ ¬ nK T t p most = true) ∧ (nK T t p most = true → z = nI (nN T t p)) := by
    by_cases c : tK T t p = 2
    · have c' := eq_true c
      have na := X4_numberAtHand f h.2.1 h.2.2.1 ⟨hk.1, hk.2.1⟩ (tk_dig T h.1 c)
      refine ⟨nI (min (nN T t p) 1000), ?_, ?_, fun q => ?_⟩
      · have na' : D_X4_numberAtHand [.ref 78] (memOf f) = some (.int (nI (min (nN T t p) 1000)), memOf f) := na
        simp [nhE, m_den, l0, Value.category, s_seq, s_if, s_st, s_ret, s_retz, s_retv, s_skip, s_sc, s_inc, s_call, e_c, e_li, e_lr, e_lj, e_un, e_bin, e_if, e_b, b_not, b_and, b_or, b_of, e_call, a_recv, a_snoc, a_nil, prI, prJ, prR, e_gi, e_gr, e_ai, e_ar, s_as, s_aop, s_pf, s_pfz, s_fop, l_set, l_ok, e_div, e_rem, e_len, s_tab, g_78_3, k3, q2, c', rc_78, na']
      · have n1 : ¬ nI (min (nN T t p) 1000) < 0 := Int32.not_lt.mpr (nI_pos' (by omega))
        have n2 : nI most < nI (min (nN T t p) 1000) ↔ most < min (nN T t p) 1000 := nI_lt_iff (by omega) (by omega)
        unfold nK
        rw [decide_eq_true_iff, n2]
        refine ⟨fun q r => ?_, fun q => Or.inr ?_⟩
        · rcases q with q | q
          · exact n1 q
          · omega
        · have : ¬ nN T t p ≤ most := fun r => q ⟨c, r⟩
          omega
      · have := of_decide_eq_true q
        rw [Nat.min_eq_left (by omega)]
    · refine ⟨-1, ?_, ⟨fun _ q => c (of_decide_eq_true q).1, fun _ => Or.inl (by decide)⟩, fun q => absurd (of_decide_eq_true q).1 c⟩
      simp [nhE, m_den, l0, Value.category, s_seq, s_if, s_st, s_ret, s_retz, s_retv, s_skip, s_sc, s_inc, s_call, e_c, e_li, e_lr, e_lj, e_un, e_bin, e_if, e_b, b_not, b_and, b_or, b_of, e_call, a_recv, a_snoc, a_nil, prI, prJ, prR, e_gi, e_gr, e_ai, e_ar, s_as, s_aop, s_pf, s_pfz, s_fop, l_set, l_ok, e_div, e_rem, e_len, s_tab, g_78_3, k3, q2, c]
  obtain ⟨z, N1, N2, N3⟩ := NH
  have bad : ((0 ≤ f 78 2) ∨ z < 0 ∨ nI most < z) → ∃ g, D_X4_needNumber [.ref 78, .int (nI most)] (memOf f) = some (.int (nI 0), memOf g) ∧ (∀ x, x ≠ 78 → g x = f x) ∧ cuX g T t p true := fun hq => by
    obtain ⟨g, B1, B2, B3⟩ := X4_failC f h
    refine ⟨g, ?_, B2, B3⟩
    have z0 : nI 0 = 0 := rfl
    rw [z0]
    unfold D_X4_needNumber
    rw [nn_eq]
    by_cases c1 : 0 ≤ f 78 2
    · simp [N1, m_den, l0, Value.category, s_seq, s_if, s_st, s_ret, s_retz, s_retv, s_skip, s_sc, s_inc, s_call, e_c, e_li, e_lr, e_lj, e_un, e_bin, e_if, e_b, b_not, b_and, b_or, b_of, e_call, a_recv, a_snoc, a_nil, prI, prJ, prR, e_gi, e_gr, e_ai, e_ar, s_as, s_aop, s_pf, s_pfz, s_fop, l_set, l_ok, e_div, e_rem, e_len, s_tab, rc_78, ha, c1, B1]
    · by_cases c2 : z < 0
      · simp [N1, m_den, l0, Value.category, s_seq, s_if, s_st, s_ret, s_retz, s_retv, s_skip, s_sc, s_inc, s_call, e_c, e_li, e_lr, e_lj, e_un, e_bin, e_if, e_b, b_not, b_and, b_or, b_of, e_call, a_recv, a_snoc, a_nil, prI, prJ, prR, e_gi, e_gr, e_ai, e_ar, s_as, s_aop, s_pf, s_pfz, s_fop, l_set, l_ok, e_div, e_rem, e_len, s_tab, rc_78, ha, c1, c2, B1]
      · have c3 : nI most < z := by
          rcases hq with q | q | q
          · exact absurd q c1
          · exact absurd q c2
          · exact q
        simp [N1, m_den, l0, Value.category, s_seq, s_if, s_st, s_ret, s_retz, s_retv, s_skip, s_sc, s_inc, s_call, e_c, e_li, e_lr, e_lj, e_un, e_bin, e_if, e_b, b_not, b_and, b_or, b_of, e_call, a_recv, a_snoc, a_nil, prI, prJ, prR, e_gi, e_gr, e_ai, e_ar, s_as, s_aop, s_pf, s_pfz, s_fop, l_set, l_ok, e_div, e_rem, e_len, s_tab, rc_78, ha, c1, c2, c3, B1]
  unfold nd
  cases w with
  | true =>
    obtain ⟨g, B1, B2, B3⟩ := bad (Or.inl (hf ▸ rfl))
    refine ⟨g, ?_, B2, ?_⟩
    · rw [if_neg (by simp)]; exact B1
    · simp only [if_true]; exact B3
  | false =>
    by_cases q : nK T t p most = true
    · have c1 : ¬ 0 ≤ f 78 2 := by rw [hf]; simp
      have c23 : ¬ (z < 0 ∨ nI most < z) := fun r => N2.mp r q
      have c2 : ¬ z < 0 := fun r => c23 (Or.inl r)
      have c3 : ¬ nI most < z := fun r => c23 (Or.inr r)
      have ez := N3 q
      obtain ⟨g, A1, A2, A3⟩ := X4_nextC f h
      refine ⟨g, ?_, A2, ?_⟩
      · rw [if_pos (by rw [q]; rfl), ← ez]
        unfold D_X4_needNumber
        rw [nn_eq]
        simp [N1, m_den, l0, Value.category, s_seq, s_if, s_st, s_ret, s_retz, s_retv, s_skip, s_sc, s_inc, s_call, e_c, e_li, e_lr, e_lj, e_un, e_bin, e_if, e_b, b_not, b_and, b_or, b_of, e_call, a_recv, a_snoc, a_nil, prI, prJ, prR, e_gi, e_gr, e_ai, e_ar, s_as, s_aop, s_pf, s_pfz, s_fop, l_set, l_ok, e_div, e_rem, e_len, s_tab, rc_78, ha, c1, c2, c3, A1]
      · rw [q]; simp only [Bool.false_eq_true, if_false, if_true]; exact A3
    · have q' : nK T t p most = false := by cases hh : nK T t p most <;> simp_all
      obtain ⟨g, B1, B2, B3⟩ := bad (Or.inr (N2.mpr q))
      refine ⟨g, ?_, B2, ?_⟩
      · rw [q', if_neg (by simp)]; exact B1
      · rw [q']; simp only [Bool.false_eq_true, if_false]; exact B3
def cuR (g : FN) (T : Nat → Nat) (t p : Nat) (w : Bool) : Prop := p ≤ t ∧ TPR g T t ∧ TKR g (tS T t p) (tE T t p) ∧ g 103 16 = b2i w
theorem X7_needsC (f : FN) {T : Nat → Nat} {t p : Nat} {w : Bool} (h : cuR f T t p w) (b : Bool) : ∃ g, D_X7_needs [.ref 103, .int (b2i b)] (memOf f) = some (.null, memOf g) ∧ (∀ x, x ≠ 103 → g x = f x) ∧ (∀ y, y ≠ 13 → y ≠ 14 → y ≠ 16 → g 103 y = f 103 y) ∧ cuR g T t (nd T t b (p, w)).1 (nd T t b (p, w)).2 := by
  obtain ⟨a, hT, hk, hw⟩ := h
  have hb := tk_b T a
  unfold nd
  cases w with
  | true =>
    obtain ⟨g, A1, A2, A3⟩ := X7_needs_wr f b hw
    refine ⟨g, A1, A2, fun y _ _ _ => A3 y, ?_⟩
    simp only [if_true]
    exact ⟨a, hT.congr (A3 12) (A2 111 (by omega)), ⟨by rw [A3 13]; exact hk.1, by rw [A3 14]; exact hk.2⟩, by rw [A3 16]; exact hw⟩
  | false =>
    cases b with
    | true =>
      obtain ⟨g, A1, A2, A3, A4, A5⟩ := X7_needs_ok f hT hk.2 (tk_ok T (show tE T t p ≤ t from hb.2.1)) hw
      refine ⟨g, A1, A2, fun y c1 c2 _ => A3 y c1 c2, ?_⟩
      simp only [Bool.false_eq_true, if_false, if_true]
      exact ⟨hb.2.1, hT.congr (A3 12 (by omega) (by omega)) (A2 111 (by omega)), ⟨A4, A5⟩, by rw [A3 16 (by omega) (by omega)]; exact hw⟩
    | false =>
      obtain ⟨g, A1, A2, A3, A4⟩ := X7_needs_no f hw
      refine ⟨g, A1, A2, fun y _ _ c3 => A3 y c3, ?_⟩
      simp only [Bool.false_eq_true, if_false]
      exact ⟨a, hT.congr (A3 12 (by omega)) (A2 111 (by omega)), ⟨by rw [A3 13 (by omega)]; exact hk.1, by rw [A3 14 (by omega)]; exact hk.2⟩, A4⟩
theorem X7_wordC (f : FN) {T : Nat → Nat} {t p : Nat} {w : Bool} (h : cuR f T t p w) : D_X7_word [.ref 103] (memOf f) = some (.long (if w then 0 else woJ T t (tS T t p) (tE T t p)), memOf f) := by
  obtain ⟨a, hT, hk, hw⟩ := h
  have hb := tk_b T a
  rw [X7_word f hT hk ⟨hb.1, hb.2.1⟩ hw]
  unfold woJ
  cases w <;> simp
theorem X7_numberC (f : FN) {T : Nat → Nat} {t p most : Nat} {w : Bool} (h : cuR f T t p w) (hm : most ≤ 99) : ∃ g, D_X7_number [.ref 103, .int 0, .int (nI most)] (memOf f) = some (.null, memOf g) ∧ (∀ x, x ≠ 103 → g x = f x) ∧ (∀ y, ¬ (13 ≤ y ∧ y ≤ 16) → g 103 y = f 103 y) ∧ cuR g T t (nd T t (nK T t p most) (p, w)).1 (nd T t (nK T t p most) (p, w)).2 ∧ ((nd T t (nK T t p most) (p, w)).2 = false → g 103 15 = nI (nN T t p)) := by
  obtain ⟨a, hT, hk, hw⟩ := id h
  have hb := tk_b T a
  cases w with
  | true =>
    refine ⟨f, X7_number_wr f _ _ hw, fun _ _ => rfl, fun _ _ => rfl, ?_, fun q => ?_⟩
    · unfold nd; simp only [if_true]; exact h
    · unfold nd at q; simp at q
  | false =>
    have lk := tk_let T a 2 (Or.inr rfl)
    obtain ⟨v, g, N1, N2, N3, N4, N5⟩ := X7_number f (hi := nI most) hT hk ⟨hb.1, hb.2.1⟩ (fun q => tk_dig T a (by rw [lk] at q; exact of_decide_eq_true q)) hw
    have hg : cuR g T t p false := ⟨a, hT.congr (N3 12 (by omega)) (N2 111 (by omega)), ⟨by rw [N3 13 (by omega)]; exact hk.1, by rw [N3 14 (by omega)]; exact hk.2⟩, by rw [N3 16 (by omega)]; exact hw⟩
    have eb : (letB T t (tS T t p) 2 && decide (0 ≤ v ∧ v ≤ nI most)) = nK T t p most := by
      rw [lk]
      unfold nK
      by_cases c : tK T t p = 2
      · obtain ⟨n1, n2⟩ := N1 (by rw [lk]; exact decide_eq_true c)
        have rn := rv_nv T (tS T t p) (tE T t p - tS T t p)
        rw [decide_eq_true c, Bool.true_and, decide_eq_decide, n1]
        have l1 : nI (rv T (tS T t p) (tE T t p - tS T t p)) ≤ nI most ↔ rv T (tS T t p) (tE T t p - tS T t p) ≤ most := nI_le_iff (by omega) (by omega)
        have l2 : (0 : Int32) ≤ nI (rv T (tS T t p) (tE T t p - tS T t p)) := nI_pos' (by omega)
        have en : nN T t p = nv T (tS T t p) (tE T t p - tS T t p) := rfl
        refine ⟨fun q => ⟨c, ?_⟩, fun q => ⟨l2, l1.mpr ?_⟩⟩
        · have q2 := l1.mp q.2
          by_cases r : nv T (tS T t p) (tE T t p - tS T t p) ≤ 999
          · have := rn.1 r; omega
          · have := rn.2 (by omega); omega
        · have := rn.1 (by omega); omega
      · rw [decide_eq_false c, Bool.false_and]
        exact (decide_eq_false (fun q => c q.1)).symm
    obtain ⟨g2, A1, A2, A3, A4⟩ := X7_needsC g hg (nK T t p most)
    rw [eb] at N5
    refine ⟨g2, N5 g2 A1, fun x hx => by rw [A2 x hx, N2 x hx], fun y hy => by rw [A3 y (by omega) (by omega) (by omega), N3 y (by omega)], A4, fun q => ?_⟩
    have qk : nK T t p most = true := by
      unfold nd at q
      cases r : nK T t p most with
      | true => rfl
      | false => rw [r] at q; simp at q
    have qq := of_decide_eq_true qk
    obtain ⟨n1, n2⟩ := N1 (by rw [lk]; exact decide_eq_true qq.1)
    have en : nN T t p = nv T (tS T t p) (tE T t p - tS T t p) := rfl
    rw [A3 15 (by omega) (by omega) (by omega), N4, n1, (rv_nv T (tS T t p) (tE T t p - tS T t p)).1 (by omega)]
    rfl
