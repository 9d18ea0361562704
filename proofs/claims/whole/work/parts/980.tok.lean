/-! TEXTS: tokens of a tape, on both sides -/
def isL (b : Nat) : Prop := 97 ≤ b ∧ b ≤ 122
def isG (b : Nat) : Prop := 48 ≤ b ∧ b ≤ 57
def srt (b : Nat) : Nat := if 97 ≤ b ∧ b ≤ 122 then 1 else if 48 ≤ b ∧ b ≤ 57 then 2 else if b = 59 then 3 else 4
/-- behind p the token from s to e, of sort k -/
def TOK (T : Nat → Nat) (t p s e k : Nat) : Prop := (p ≤ s ∧ s ≤ t) ∧ (∀ i, p ≤ i → i < s → i < t ∧ T i = 32) ∧ ¬ (s < t ∧ T s = 32) ∧ ((s = t ∧ k = 0 ∧ e = s) ∨ (s < t ∧ k = srt (T s) ∧ s < e ∧ e ≤ t ∧ (¬ (k = 1 ∨ k = 2) → e = s + 1) ∧ ((k = 1 ∨ k = 2) → (∀ i, s < i → i < e → srt (T i) = k) ∧ ¬ (e < t ∧ srt (T e) = k))))
theorem TOK_ex' (T : Nat → Nat) {t p : Nat} (hp : p ≤ t) : ∃ s e k, TOK T t p s e k := by
  rcases first_ex (fun i => ¬ (p + i < t ∧ T (p + i) = 32)) (t - p) with ⟨K, hK, hZ, hlt⟩ | hno
  · have h1 : ∀ i, p ≤ i → i < p + K → i < t ∧ T i = 32 := fun i a b => by
      have := hlt (i - p) (by omega)
      rw [show p + (i - p) = i by omega] at this
      exact Classical.byContradiction this
    have hs : p + K ≤ t := by omega
    by_cases c : p + K = t
    · exact ⟨p + K, p + K, 0, ⟨by omega, hs⟩, h1, hZ, Or.inl ⟨c, rfl, rfl⟩⟩
    · by_cases ck : srt (T (p + K)) = 1 ∨ srt (T (p + K)) = 2
      · rcases first_ex (fun i => ¬ (p + K + 1 + i < t ∧ srt (T (p + K + 1 + i)) = srt (T (p + K)))) (t - (p + K + 1)) with ⟨J, hJ, hZ2, hlt2⟩ | hno2
        · refine ⟨p + K, p + K + 1 + J, srt (T (p + K)), ⟨by omega, hs⟩, h1, hZ, Or.inr ⟨by omega, rfl, by omega, by omega, fun q => absurd ck q, fun _ => ⟨fun i a b => ?_, hZ2⟩⟩⟩
          have := hlt2 (i - (p + K + 1)) (by omega)
          rw [show p + K + 1 + (i - (p + K + 1)) = i by omega] at this
          exact (Classical.byContradiction this : i < t ∧ srt (T i) = srt (T (p + K))).2
        · exact absurd (fun q => by omega) (hno2 (t - (p + K + 1)) (Nat.le_refl _))
      · exact ⟨p + K, p + K + 1, srt (T (p + K)), ⟨by omega, hs⟩, h1, hZ, Or.inr ⟨by omega, rfl, by omega, by omega, fun _ => rfl, fun q => absurd q ck⟩⟩
  · exact absurd (fun q => by omega) (hno (t - p) (Nat.le_refl _))
theorem TOK_ex (T : Nat → Nat) {t p : Nat} (hp : p ≤ t) : ∃ q : Nat × Nat × Nat, TOK T t p q.1 q.2.1 q.2.2 := by
  obtain ⟨s, e, k, h⟩ := TOK_ex' T hp
  exact ⟨(s, e, k), h⟩
noncomputable def tok (T : Nat → Nat) (t p : Nat) : Nat × Nat × Nat := if h : p ≤ t then Classical.choose (TOK_ex T h) else (0, 0, 0)
theorem tok_ok (T : Nat → Nat) {t p : Nat} (h : p ≤ t) : TOK T t p (tok T t p).1 (tok T t p).2.1 (tok T t p).2.2 := by
  unfold tok; rw [dif_pos h]; exact Classical.choose_spec (TOK_ex T h)
/-- the class's tape -/
def TPX (g : FN) (T : Nat → Nat) (t : Nat) : Prop := g 78 1 = nI t ∧ t ≤ 120 ∧ ∀ i, i < t → g 79 i = nI (T i) ∧ T i < 256
theorem X4_sortOf (b : Nat) (hb : b < 256) (M : GM) : D_X4_sortOf [.int (nI b)] M = some (.int (nI (srt b)), M) := by
  have q1 : ((97 : Int32) ≤ nI b) = (97 ≤ b) := propext (nI_le_iff (a := 97) (b := b) (by omega) (by omega))
  have q2 : (nI b ≤ (122 : Int32)) = (b ≤ 122) := propext (nI_le_iff (a := b) (b := 122) (by omega) (by omega))
  have q3 : ((48 : Int32) ≤ nI b) = (48 ≤ b) := propext (nI_le_iff (a := 48) (b := b) (by omega) (by omega))
  have q4 : (nI b ≤ (57 : Int32)) = (b ≤ 57) := propext (nI_le_iff (a := b) (b := 57) (by omega) (by omega))
  have q5 : (nI b = (59 : Int32)) = (b = 59) := propext (nI_inj (a := b) (b := 59) (by omega) (by omega))
  by_cases c1 : 97 ≤ b ∧ b ≤ 122
  · have e : srt b = 1 := by unfold srt; rw [if_pos c1]
    rw [e]
    simp [D_X4_sortOf, S_X4_sortOf, m_den, l0, Value.category, s_seq, s_if, s_st, s_ret, s_retz, s_retv, s_skip, s_sc, s_inc, s_call, e_c, e_li, e_lr, e_lj, e_un, e_bin, e_if, e_b, b_not, b_and, b_or, b_of, e_call, a_recv, a_snoc, a_nil, prI, prJ, prR, e_gi, e_gr, e_ai, e_ar, s_as, s_aop, s_pf, s_pfz, s_fop, l_set, l_ok, e_div, e_rem, e_len, s_tab, q1, q2, c1.1, c1.2]; rfl
  · by_cases c2 : 48 ≤ b ∧ b ≤ 57
    · have e : srt b = 2 := by unfold srt; rw [if_neg c1, if_pos c2]
      have d : ¬ 97 ≤ b := by omega
      rw [e]
      simp [D_X4_sortOf, S_X4_sortOf, m_den, l0, Value.category, s_seq, s_if, s_st, s_ret, s_retz, s_retv, s_skip, s_sc, s_inc, s_call, e_c, e_li, e_lr, e_lj, e_un, e_bin, e_if, e_b, b_not, b_and, b_or, b_of, e_call, a_recv, a_snoc, a_nil, prI, prJ, prR, e_gi, e_gr, e_ai, e_ar, s_as, s_aop, s_pf, s_pfz, s_fop, l_set, l_ok, e_div, e_rem, e_len, s_tab, q1, d, q3, q4, c2.1, c2.2]; rfl
    · have key : ∀ z : Int32, (b = 59 → z = 3) → (¬ b = 59 → z = 4) → D_X4_sortOf [.int (nI b)] M = some (.int z, M) := fun z h1 h2 => by
        by_cases c3 : b = 59
        · have c3' := eq_true c3
          have d1 : ¬ 97 ≤ b := by omega
          have d2 : ¬ b ≤ 57 := by omega
          have d3 : 48 ≤ b := by omega
          simp [D_X4_sortOf, S_X4_sortOf, m_den, l0, Value.category, s_seq, s_if, s_st, s_ret, s_retz, s_retv, s_skip, s_sc, s_inc, s_call, e_c, e_li, e_lr, e_lj, e_un, e_bin, e_if, e_b, b_not, b_and, b_or, b_of, e_call, a_recv, a_snoc, a_nil, prI, prJ, prR, e_gi, e_gr, e_ai, e_ar, s_as, s_aop, s_pf, s_pfz, s_fop, l_set, l_ok, e_div, e_rem, e_len, s_tab, q1, d1, q3, q4, d2, d3, q5, c3', h1 c3]
        · have z4 := h2 c3
          by_cases d1 : 97 ≤ b
          · have d2 : ¬ b ≤ 122 := fun q => c1 ⟨d1, q⟩
            have d3 : ¬ b ≤ 57 := by omega
            have d4 : 48 ≤ b := by omega
            simp [D_X4_sortOf, S_X4_sortOf, m_den, l0, Value.category, s_seq, s_if, s_st, s_ret, s_retz, s_retv, s_skip, s_sc, s_inc, s_call, e_c, e_li, e_lr, e_lj, e_un, e_bin, e_if, e_b, b_not, b_and, b_or, b_of, e_call, a_recv, a_snoc, a_nil, prI, prJ, prR, e_gi, e_gr, e_ai, e_ar, s_as, s_aop, s_pf, s_pfz, s_fop, l_set, l_ok, e_div, e_rem, e_len, s_tab, q1, q2, d1, d2, q3, q4, d3, d4, q5, c3, z4]
          · by_cases d2 : 48 ≤ b
            · have d3 : ¬ b ≤ 57 := fun q => c2 ⟨d2, q⟩
              simp [D_X4_sortOf, S_X4_sortOf, m_den, l0, Value.category, s_seq, s_if, s_st, s_ret, s_retz, s_retv, s_skip, s_sc, s_inc, s_call, e_c, e_li, e_lr, e_lj, e_un, e_bin, e_if, e_b, b_not, b_and, b_or, b_of, e_call, a_recv, a_snoc, a_nil, prI, prJ, prR, e_gi, e_gr, e_ai, e_ar, s_as, s_aop, s_pf, s_pfz, s_fop, l_set, l_ok, e_div, e_rem, e_len, s_tab, q1, d1, q3, q4, d2, d3, q5, c3, z4]
            · simp [D_X4_sortOf, S_X4_sortOf, m_den, l0, Value.category, s_seq, s_if, s_st, s_ret, s_retz, s_retv, s_skip, s_sc, s_inc, s_call, e_c, e_li, e_lr, e_lj, e_un, e_bin, e_if, e_b, b_not, b_and, b_or, b_of, e_call, a_recv, a_snoc, a_nil, prI, prJ, prR, e_gi, e_gr, e_ai, e_ar, s_as, s_aop, s_pf, s_pfz, s_fop, l_set, l_ok, e_div, e_rem, e_len, s_tab, q1, d1, q3, d2, q5, c3, z4]
      refine key _ (fun c => ?_) (fun c => ?_)
      · unfold srt; rw [if_neg c1, if_neg c2, if_pos c]; rfl
      · unfold srt; rw [if_neg c1, if_neg c2, if_neg c]; rfl
/-- the next token -/
theorem X4_next (f : FN) {T : Nat → Nat} {t p s e k : Nat} (hT : TPX f T t) (hp : f 78 5 = nI p) (hk : TOK T t p s e k) : ∃ g, D_X4_next [.ref 78] (memOf f) = some (.null, memOf g) ∧ (∀ x, x ≠ 78 → g x = f x) ∧ g 78 1 = f 78 1 ∧ g 78 2 = f 78 2 ∧ g 78 3 = nI k ∧ g 78 4 = nI s ∧ g 78 5 = nI e := by
  obtain ⟨t1, t2, t3⟩ := hT
  obtain ⟨⟨k1, k2⟩, k3, k4, k5⟩ := hk
  -- the blanks
  have W1 := while_rel (b := WB_X4_next_1) (s := WS_X4_next_1) (fun _ => [.ref 78]) (fun i g => (∀ x, x ≠ 78 → g x = f x) ∧ (∀ y, y ≠ 5 → g 78 y = f 78 y) ∧ g 78 5 = nI (p + i)) (s - p) (by unfold FU; omega) (fun i g hi hI => ?_) (fun i g hi hI => ?_) (fun g hI => ?_) (f := f) ⟨fun _ _ => rfl, fun _ _ => rfl, hp⟩
  · obtain ⟨g1, A1, A2, A3, A4⟩ := W1
    rw [show p + (s - p) = s by omega] at A4
    have A1' : W_X4_next_1 [.ref 78] (memOf f) = some (.inl ([.ref 78], memOf g1)) := A1
    have l1 : g1 78 1 = nI t := by rw [A3 1 (by omega)]; exact t1
    have end2 : ∀ g : FN, W_X4_next_2 [.ref 78, .int 0] (memOf g) = some (.inl ([.ref 78, .int 0], memOf g)) := fun g => by
      obtain ⟨m, hm⟩ : ∃ m, FU = m + 1 := ⟨FU - 1, by unfold FU; omega⟩
      unfold W_X4_next_2
      rw [hm]
      refine while_end ?_
      simp [WB_X4_next_2, m_den, l0, Value.category, s_seq, s_if, s_st, s_ret, s_retz, s_retv, s_skip, s_sc, s_inc, s_call, e_c, e_li, e_lr, e_lj, e_un, e_bin, e_if, e_b, b_not, b_and, b_or, b_of, e_call, a_recv, a_snoc, a_nil, prI, prJ, prR, e_gi, e_gr, e_ai, e_ar, s_as, s_aop, s_pf, s_pfz, s_fop, l_set, l_ok, e_div, e_rem, e_len, s_tab]
    rcases k5 with ⟨c1, c2, c3⟩ | ⟨c1, c2, c3, c4, c5, c6⟩
    · subst c2 c3
      have e1 : ¬ nI e < nI t := fun q => absurd ((nI_lt_iff (by omega) (by omega)).mp q) (by omega)
      refine ⟨row g1 78 (upd (upd (g1 78) 4 (nI e)) 3 0), ?_, fun x hx => by rw [row_ne _ _ hx]; exact A2 x hx, ?_, ?_, ?_, ?_, ?_⟩
      · simp [D_X4_next, S_X4_next, m_den, l0, Value.category, s_seq, s_if, s_st, s_ret, s_retz, s_retv, s_skip, s_sc, s_inc, s_call, e_c, e_li, e_lr, e_lj, e_un, e_bin, e_if, e_b, b_not, b_and, b_or, b_of, e_call, a_recv, a_snoc, a_nil, prI, prJ, prR, e_gi, e_gr, e_ai, e_ar, s_as, s_aop, s_pf, s_pfz, s_fop, l_set, l_ok, e_div, e_rem, e_len, s_tab, A1', g_78_5, A4, p_78_4, p_78_3, row_row, row_self, upd_ne, upd_self, g_78_1, l1, e1, g_78_3, end2]
      · rw [row_self, upd_ne _ _ (by omega), upd_ne _ _ (by omega)]; exact A3 1 (by omega)
      · rw [row_self, upd_ne _ _ (by omega), upd_ne _ _ (by omega)]; exact A3 2 (by omega)
      · rw [row_self, upd_self]; rfl
      · rw [row_self, upd_ne _ _ (by omega), upd_self]
      · rw [row_self, upd_ne _ _ (by omega), upd_ne _ _ (by omega)]; exact A4
    · have e1 : nI s < nI t := (nI_lt_iff (by omega) (by omega)).mpr c1
      obtain ⟨g2, h2⟩ : ∃ g2, g2 = row g1 78 (upd (upd (upd (upd (g1 78) 4 (nI s)) 3 0) 3 (nI k)) 5 (nI (s + 1))) := ⟨_, rfl⟩
      have r : ∀ u : Nat → Int32, gm_rd (memOf (row g1 78 u)) 79 (nI s) = some (nI (T s)) := fun u => by
        rw [rd_79 _ (show s < 120 by omega), row_ne _ _ (by omega), A2 79 (by omega)]; exact congrArg some (t3 s c1).1
      have so := fun M => X4_sortOf (T s) (t3 s c1).2 M
      rw [← c2] at so
      have k4' : k ≤ 4 := by rw [c2]; unfold srt; split <;> (try split) <;> (try split) <;> omega
      have q1 : (nI k = (1 : Int32)) = (k = 1) := propext (nI_inj (a := k) (b := 1) (by omega) (by omega))
      have q2 : (nI k = (2 : Int32)) = (k = 2) := propext (nI_inj (a := k) (b := 2) (by omega) (by omega))
      have G : (∀ x, x ≠ 78 → g2 x = f x) ∧ g2 78 1 = f 78 1 ∧ g2 78 2 = f 78 2 ∧ g2 78 3 = nI k ∧ g2 78 4 = nI s ∧ g2 78 5 = nI (s + 1) := by
        refine ⟨fun x hx => by rw [h2, row_ne _ _ hx]; exact A2 x hx, ?_, ?_, ?_, ?_, ?_⟩
        · rw [h2, row_self, upd_ne _ _ (by omega), upd_ne _ _ (by omega), upd_ne _ _ (by omega), upd_ne _ _ (by omega)]; exact A3 1 (by omega)
        · rw [h2, row_self, upd_ne _ _ (by omega), upd_ne _ _ (by omega), upd_ne _ _ (by omega), upd_ne _ _ (by omega)]; exact A3 2 (by omega)
        · rw [h2, row_self, upd_ne _ _ (by omega), upd_self]
        · rw [h2, row_self, upd_ne _ _ (by omega), upd_ne _ _ (by omega), upd_ne _ _ (by omega), upd_self]
        · rw [h2, row_self, upd_self]
      obtain ⟨G1, G2, G3, G4, G5, G6⟩ := G
      by_cases ck : k = 1 ∨ k = 2
      · obtain ⟨d1, d2⟩ := c6 ck
        have W2 := while_rel (b := WB_X4_next_2) (s := WS_X4_next_2) (fun _ => [.ref 78, .int 1]) (fun i g => (∀ x, x ≠ 78 → g x = f x) ∧ (∀ y, y ≠ 5 → g 78 y = g2 78 y) ∧ g 78 5 = nI (s + 1 + i)) (e - (s + 1)) (by unfold FU; omega) (fun i g hi hI => ?_) (fun i g hi hI => ?_) (fun g hI => ?_) (f := g2) ⟨G1, fun _ _ => rfl, G6⟩
        · obtain ⟨g3, B1, B2, B3, B4⟩ := W2
          have B1' : W_X4_next_2 [.ref 78, .int 1] (memOf g2) = some (.inl ([.ref 78, .int 1], memOf g3)) := B1
          rw [h2] at B1'
          refine ⟨g3, ?_, B2, by rw [B3 1 (by omega)]; exact G2, by rw [B3 2 (by omega)]; exact G3, by rw [B3 3 (by omega)]; exact G4, by rw [B3 4 (by omega)]; exact G5, by rw [B4, show s + 1 + (e - (s + 1)) = e by omega]⟩
          rcases ck with ck | ck
          · have ck' := eq_true ck
            simp [D_X4_next, S_X4_next, m_den, l0, Value.category, s_seq, s_if, s_st, s_ret, s_retz, s_retv, s_skip, s_sc, s_inc, s_call, e_c, e_li, e_lr, e_lj, e_un, e_bin, e_if, e_b, b_not, b_and, b_or, b_of, e_call, a_recv, a_snoc, a_nil, prI, prJ, prR, e_gi, e_gr, e_ai, e_ar, s_as, s_aop, s_pf, s_pfz, s_fop, l_set, l_ok, e_div, e_rem, e_len, s_tab, A1', g_78_5, A4, p_78_4, p_78_3, p_78_5, row_row, row_self, upd_ne, upd_self, g_78_1, l1, e1, g_78_0, r, so, g_78_3, nI_next, q1, ck', B1']
          · have ck' := eq_true ck
            have ck2 : (k = 1) = False := eq_false (by omega)
            simp [D_X4_next, S_X4_next, m_den, l0, Value.category, s_seq, s_if, s_st, s_ret, s_retz, s_retv, s_skip, s_sc, s_inc, s_call, e_c, e_li, e_lr, e_lj, e_un, e_bin, e_if, e_b, b_not, b_and, b_or, b_of, e_call, a_recv, a_snoc, a_nil, prI, prJ, prR, e_gi, e_gr, e_ai, e_ar, s_as, s_aop, s_pf, s_pfz, s_fop, l_set, l_ok, e_div, e_rem, e_len, s_tab, A1', g_78_5, A4, p_78_4, p_78_3, p_78_5, row_row, row_self, upd_ne, upd_self, g_78_1, l1, e1, g_78_0, r, so, g_78_3, nI_next, q1, q2, ck', ck2, B1']
        · have hi' : s + 1 + i < t := by omega
          have er : nI (s + 1 + i) < nI t := (nI_lt_iff (by omega) (by omega)).mpr hi'
          have rr := rd_79 g (show s + 1 + i < 120 by omega)
          rw [hI.1 79 (by omega), (t3 _ hi').1] at rr
          have ss := fun M => X4_sortOf (T (s + 1 + i)) (t3 _ hi').2 M
          rw [d1 (s + 1 + i) (by omega) (by omega)] at ss
          have l5 : g 78 1 = nI t := by rw [hI.2.1 1 (by omega), G2]; exact t1
          have l3 : g 78 3 = nI k := by rw [hI.2.1 3 (by omega)]; exact G4
          simp [WB_X4_next_2, m_den, l0, Value.category, s_seq, s_if, s_st, s_ret, s_retz, s_retv, s_skip, s_sc, s_inc, s_call, e_c, e_li, e_lr, e_lj, e_un, e_bin, e_if, e_b, b_not, b_and, b_or, b_of, e_call, a_recv, a_snoc, a_nil, prI, prJ, prR, e_gi, e_gr, e_ai, e_ar, s_as, s_aop, s_pf, s_pfz, s_fop, l_set, l_ok, e_div, e_rem, e_len, s_tab, g_78_5, g_78_1, hI.2.2, l5, er, g_78_0, rr, ss, g_78_3, l3]
        · refine ⟨row g 78 (upd (g 78) 5 (nI (s + 1 + i) + 1)), ?_, fun x hx => by rw [row_ne _ _ hx]; exact hI.1 x hx, fun y hy => by rw [row_self, upd_ne _ _ hy]; exact hI.2.1 y hy, by rw [row_self, upd_self, nI_next]; rfl⟩
          simp [WS_X4_next_2, m_den, l0, Value.category, s_seq, s_if, s_st, s_ret, s_retz, s_retv, s_skip, s_sc, s_inc, s_call, e_c, e_li, e_lr, e_lj, e_un, e_bin, e_if, e_b, b_not, b_and, b_or, b_of, e_call, a_recv, a_snoc, a_nil, prI, prJ, prR, e_gi, e_gr, e_ai, e_ar, s_as, s_aop, s_pf, s_pfz, s_fop, l_set, l_ok, e_div, e_rem, e_len, s_tab, g_78_5, hI.2.2, p_78_5]
        · have hI3 := hI.2.2
          rw [show s + 1 + (e - (s + 1)) = e by omega] at hI3
          have l5 : g 78 1 = nI t := by rw [hI.2.1 1 (by omega), G2]; exact t1
          have l3 : g 78 3 = nI k := by rw [hI.2.1 3 (by omega)]; exact G4
          by_cases c : e < t
          · have er : nI e < nI t := (nI_lt_iff (by omega) (by omega)).mpr c
            have rr := rd_79 g (show e < 120 by omega)
            rw [hI.1 79 (by omega), (t3 _ c).1] at rr
            have ss := fun M => X4_sortOf (T e) (t3 _ c).2 M
            have ne : ¬ nI (srt (T e)) = nI k := fun q => d2 ⟨c, (nI_inj (by unfold srt; split <;> (try split) <;> (try split) <;> omega) (by omega)).mp q⟩
            simp [WB_X4_next_2, m_den, l0, Value.category, s_seq, s_if, s_st, s_ret, s_retz, s_retv, s_skip, s_sc, s_inc, s_call, e_c, e_li, e_lr, e_lj, e_un, e_bin, e_if, e_b, b_not, b_and, b_or, b_of, e_call, a_recv, a_snoc, a_nil, prI, prJ, prR, e_gi, e_gr, e_ai, e_ar, s_as, s_aop, s_pf, s_pfz, s_fop, l_set, l_ok, e_div, e_rem, e_len, s_tab, g_78_5, g_78_1, hI3, l5, er, g_78_0, rr, ss, g_78_3, l3, ne]
          · have er : ¬ nI e < nI t := fun q => c ((nI_lt_iff (by omega) (by omega)).mp q)
            simp [WB_X4_next_2, m_den, l0, Value.category, s_seq, s_if, s_st, s_ret, s_retz, s_retv, s_skip, s_sc, s_inc, s_call, e_c, e_li, e_lr, e_lj, e_un, e_bin, e_if, e_b, b_not, b_and, b_or, b_of, e_call, a_recv, a_snoc, a_nil, prI, prJ, prR, e_gi, e_gr, e_ai, e_ar, s_as, s_aop, s_pf, s_pfz, s_fop, l_set, l_ok, e_div, e_rem, e_len, s_tab, g_78_5, g_78_1, hI3, l5, er]
      · have n1 : (k = 1) = False := eq_false (fun q => ck (Or.inl q))
        have n2 : (k = 2) = False := eq_false (fun q => ck (Or.inr q))
        have ee : e = s + 1 := c5 ck
        have E2 := end2 g2
        rw [h2] at E2
        refine ⟨g2, ?_, G1, G2, G3, G4, G5, by rw [ee]; exact G6⟩
        rw [h2]
        simp [D_X4_next, S_X4_next, m_den, l0, Value.category, s_seq, s_if, s_st, s_ret, s_retz, s_retv, s_skip, s_sc, s_inc, s_call, e_c, e_li, e_lr, e_lj, e_un, e_bin, e_if, e_b, b_not, b_and, b_or, b_of, e_call, a_recv, a_snoc, a_nil, prI, prJ, prR, e_gi, e_gr, e_ai, e_ar, s_as, s_aop, s_pf, s_pfz, s_fop, l_set, l_ok, e_div, e_rem, e_len, s_tab, A1', g_78_5, A4, p_78_4, p_78_3, p_78_5, row_row, row_self, upd_ne, upd_self, g_78_1, l1, e1, g_78_0, r, so, g_78_3, nI_next, q1, q2, n1, n2, E2]
  · have h3 := k3 (p + i) (by omega) (by omega)
    have e : nI (p + i) < nI t := (nI_lt_iff (by omega) (by omega)).mpr h3.1
    have r := rd_79 g (show p + i < 120 by omega)
    rw [hI.1 79 (by omega), (t3 _ h3.1).1, h3.2] at r
    have q : (nI 32 = (32 : Int32)) = True := eq_true rfl
    have l1 : g 78 1 = nI t := by rw [hI.2.1 1 (by omega)]; exact t1
    simp [WB_X4_next_1, m_den, l0, Value.category, s_seq, s_if, s_st, s_ret, s_retz, s_retv, s_skip, s_sc, s_inc, s_call, e_c, e_li, e_lr, e_lj, e_un, e_bin, e_if, e_b, b_not, b_and, b_or, b_of, e_call, a_recv, a_snoc, a_nil, prI, prJ, prR, e_gi, e_gr, e_ai, e_ar, s_as, s_aop, s_pf, s_pfz, s_fop, l_set, l_ok, e_div, e_rem, e_len, s_tab, g_78_5, g_78_1, hI.2.2, l1, e, g_78_0, r, q]
  · refine ⟨row g 78 (upd (g 78) 5 (nI (p + i) + 1)), ?_, fun x hx => by rw [row_ne _ _ hx]; exact hI.1 x hx, fun y hy => by rw [row_self, upd_ne _ _ hy]; exact hI.2.1 y hy, by rw [row_self, upd_self, nI_next]; rfl⟩
    simp [WS_X4_next_1, m_den, l0, Value.category, s_seq, s_if, s_st, s_ret, s_retz, s_retv, s_skip, s_sc, s_inc, s_call, e_c, e_li, e_lr, e_lj, e_un, e_bin, e_if, e_b, b_not, b_and, b_or, b_of, e_call, a_recv, a_snoc, a_nil, prI, prJ, prR, e_gi, e_gr, e_ai, e_ar, s_as, s_aop, s_pf, s_pfz, s_fop, l_set, l_ok, e_div, e_rem, e_len, s_tab, g_78_5, hI.2.2, p_78_5]
  · have hI3 := hI.2.2
    rw [show p + (s - p) = s by omega] at hI3
    have l1 : g 78 1 = nI t := by rw [hI.2.1 1 (by omega)]; exact t1
    by_cases c : s < t
    · have e : nI s < nI t := (nI_lt_iff (by omega) (by omega)).mpr c
      have r := rd_79 g (show s < 120 by omega)
      rw [hI.1 79 (by omega), (t3 _ c).1] at r
      have q : (nI (T s) = (32 : Int32)) = (T s = 32) := propext (nI_inj (a := T s) (b := 32) (by have := (t3 _ c).2; omega) (by omega))
      have q2 : ¬ T s = 32 := fun z => k4 ⟨c, z⟩
      simp [WB_X4_next_1, m_den, l0, Value.category, s_seq, s_if, s_st, s_ret, s_retz, s_retv, s_skip, s_sc, s_inc, s_call, e_c, e_li, e_lr, e_lj, e_un, e_bin, e_if, e_b, b_not, b_and, b_or, b_of, e_call, a_recv, a_snoc, a_nil, prI, prJ, prR, e_gi, e_gr, e_ai, e_ar, s_as, s_aop, s_pf, s_pfz, s_fop, l_set, l_ok, e_div, e_rem, e_len, s_tab, g_78_5, g_78_1, hI3, l1, e, g_78_0, r, q, q2]
    · have e : ¬ nI s < nI t := fun q => c ((nI_lt_iff (by omega) (by omega)).mp q)
      simp [WB_X4_next_1, m_den, l0, Value.category, s_seq, s_if, s_st, s_ret, s_retz, s_retv, s_skip, s_sc, s_inc, s_call, e_c, e_li, e_lr, e_lj, e_un, e_bin, e_if, e_b, b_not, b_and, b_or, b_of, e_call, a_recv, a_snoc, a_nil, prI, prJ, prR, e_gi, e_gr, e_ai, e_ar, s_as, s_aop, s_pf, s_pfz, s_fop, l_set, l_ok, e_div, e_rem, e_len, s_tab, g_78_5, g_78_1, hI3, l1, e]
