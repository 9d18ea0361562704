/-! the reference's tokens -/
def TPR (g : FN) (T : Nat → Nat) (t : Nat) : Prop := g 103 12 = nI t ∧ t ≤ 120 ∧ ∀ i, i < t → g 111 i = nI (T i) ∧ T i < 256
def bAt (T : Nat → Nat) (t i : Nat) : Int32 := if i < t then nI (T i) else -1
theorem X7_byteAt (f : FN) {T : Nat → Nat} {t i : Nat} (hT : TPR f T t) (hi : i ≤ 1000) : D_X7_byteAt [.ref 103, .int (nI i)] (memOf f) = some (.int (bAt T t i), memOf f) := by
  obtain ⟨t1, t2, t3⟩ := hT
  unfold bAt
  by_cases c : i < t
  · have e : nI i < nI t := (nI_lt_iff (by omega) (by omega)).mpr c
    have r := rd_111 f (show i < 120 by omega)
    rw [(t3 i c).1] at r
    rw [if_pos c]
    simp [D_X7_byteAt, S_X7_byteAt, m_den, l0, Value.category, s_seq, s_if, s_st, s_ret, s_retz, s_retv, s_skip, s_sc, s_inc, s_call, e_c, e_li, e_lr, e_lj, e_un, e_bin, e_if, e_b, b_not, b_and, b_or, b_of, e_call, a_recv, a_snoc, a_nil, prI, prJ, prR, e_gi, e_gr, e_ai, e_ar, s_as, s_aop, s_pf, s_pfz, s_fop, l_set, l_ok, e_div, e_rem, e_len, s_tab, g_103_12, t1, e, g_103_11, r]
  · have e : ¬ nI i < nI t := fun q => c ((nI_lt_iff (by omega) (by omega)).mp q)
    rw [if_neg c]
    simp [D_X7_byteAt, S_X7_byteAt, m_den, l0, Value.category, s_seq, s_if, s_st, s_ret, s_retz, s_retv, s_skip, s_sc, s_inc, s_call, e_c, e_li, e_lr, e_lj, e_un, e_bin, e_if, e_b, b_not, b_and, b_or, b_of, e_call, a_recv, a_snoc, a_nil, prI, prJ, prR, e_gi, e_gr, e_ai, e_ar, s_as, s_aop, s_pf, s_pfz, s_fop, l_set, l_ok, e_div, e_rem, e_len, s_tab, g_103_12, t1, e]
theorem srt_1 (b : Nat) : srt b = 1 ↔ 97 ≤ b ∧ b ≤ 122 := by
  unfold srt
  by_cases c : 97 ≤ b ∧ b ≤ 122
  · rw [if_pos c]; exact ⟨fun _ => c, fun _ => rfl⟩
  · rw [if_neg c]
    refine ⟨fun q => ?_, fun q => absurd q c⟩
    split at q
    · omega
    · split at q <;> omega
theorem srt_2 (b : Nat) : srt b = 2 ↔ 48 ≤ b ∧ b ≤ 57 := by
  unfold srt
  by_cases c : 97 ≤ b ∧ b ≤ 122
  · rw [if_pos c]; omega
  · rw [if_neg c]
    by_cases c2 : 48 ≤ b ∧ b ≤ 57
    · rw [if_pos c2]; exact ⟨fun _ => c2, fun _ => rfl⟩
    · rw [if_neg c2]
      refine ⟨fun q => ?_, fun q => absurd q c2⟩
      split at q <;> omega
def letB (T : Nat → Nat) (t i k : Nat) : Bool := decide (i < t ∧ srt (T i) = k)
theorem let_b {T : Nat → Nat} {t i : Nat} (hb : i < t → T i < 256) (M : GM) : D_X7_isLetter [.int (bAt T t i)] M = some (.int (b2i (letB T t i 1)), M) := by
  rw [X7_isLetter]
  have e : (97 ≤ bAt T t i ∧ bAt T t i ≤ 122) ↔ (i < t ∧ srt (T i) = 1) := by
    unfold bAt
    by_cases c : i < t
    · rw [if_pos c, srt_1]
      have h := hb c
      have q1 : ((97 : Int32) ≤ nI (T i)) ↔ (97 ≤ T i) := nI_le_iff (a := 97) (b := T i) (by omega) (by omega)
      have q2 : (nI (T i) ≤ (122 : Int32)) ↔ (T i ≤ 122) := nI_le_iff (a := T i) (b := 122) (by omega) (by omega)
      rw [q1, q2]
      exact ⟨fun q => ⟨c, q⟩, fun q => q.2⟩
    · rw [if_neg c]
      exact ⟨fun q => absurd q.1 (by decide), fun q => absurd q.1 c⟩
  unfold letB b2i
  by_cases c : i < t ∧ srt (T i) = 1
  · rw [if_pos (e.mpr c), if_pos (decide_eq_true c)]
  · rw [if_neg (fun q => c (e.mp q)), if_neg (by rw [decide_eq_true_iff]; exact c)]
theorem dig_b {T : Nat → Nat} {t i : Nat} (hb : i < t → T i < 256) (M : GM) : D_X7_isDigit [.int (bAt T t i)] M = some (.int (b2i (letB T t i 2)), M) := by
  rw [X7_isDigit]
  have e : (48 ≤ bAt T t i ∧ bAt T t i ≤ 57) ↔ (i < t ∧ srt (T i) = 2) := by
    unfold bAt
    by_cases c : i < t
    · rw [if_pos c, srt_2]
      have h := hb c
      have q1 : ((48 : Int32) ≤ nI (T i)) ↔ (48 ≤ T i) := nI_le_iff (a := 48) (b := T i) (by omega) (by omega)
      have q2 : (nI (T i) ≤ (57 : Int32)) ↔ (T i ≤ 57) := nI_le_iff (a := T i) (b := 57) (by omega) (by omega)
      rw [q1, q2]
      exact ⟨fun q => ⟨c, q⟩, fun q => q.2⟩
    · rw [if_neg c]
      exact ⟨fun q => absurd q.1 (by decide), fun q => absurd q.1 c⟩
  unfold letB b2i
  by_cases c : i < t ∧ srt (T i) = 2
  · rw [if_pos (e.mpr c), if_pos (decide_eq_true c)]
  · rw [if_neg (fun q => c (e.mp q)), if_neg (by rw [decide_eq_true_iff]; exact c)]
theorem b2i_ne (b : Bool) : (b2i b = 0) = (b = false) := by cases b <;> simp [b2i]
theorem TPR.congr {f g : FN} {T : Nat → Nat} {t : Nat} (h : TPR f T t) (e1 : g 103 12 = f 103 12) (e2 : g 111 = f 111) : TPR g T t := by
  unfold TPR at *; rw [e1, e2]; exact h
theorem X7_token (f : FN) {T : Nat → Nat} {t p s e k : Nat} (hT : TPR f T t) (hp : f 103 14 = nI p) (hk : TOK T t p s e k) : ∃ g, D_X7_token [.ref 103] (memOf f) = some (.null, memOf g) ∧ (∀ x, x ≠ 103 → g x = f x) ∧ (∀ y, y ≠ 13 → y ≠ 14 → g 103 y = f 103 y) ∧ g 103 13 = nI s ∧ g 103 14 = nI e := by
  have t2 := hT.2.1
  have hb : ∀ i, i < t → T i < 256 := fun i hi => (hT.2.2 i hi).2
  obtain ⟨⟨k1, k2⟩, k3, k4, k5⟩ := hk
  obtain ⟨f1, h1⟩ : ∃ f1, f1 = row f 103 (upd (f 103) 13 (nI p)) := ⟨_, rfl⟩
  have w1 := p_103_13 f (nI p)
  rw [← h1] at w1
  have E1 : (∀ x, x ≠ 103 → f1 x = f x) ∧ (∀ y, y ≠ 13 → f1 103 y = f 103 y) ∧ f1 103 13 = nI p := ⟨fun x hx => by rw [h1, row_ne _ _ hx], fun y hy => by rw [h1, row_self, upd_ne _ _ hy], by rw [h1, row_self, upd_self]⟩
  have tp : ∀ g : FN, (∀ x, x ≠ 103 → g x = f x) → g 103 12 = f 103 12 → TPR g T t := fun g a b => hT.congr b (a 111 (by omega))
  have W1 := while_rel (b := WB_X7_token_1) (s := WS_X7_token_1) (fun _ => [.ref 103]) (fun i g => (∀ x, x ≠ 103 → g x = f x) ∧ (∀ y, y ≠ 13 → g 103 y = f 103 y) ∧ g 103 13 = nI (p + i)) (s - p) (by unfold FU; omega) (fun i g hi hI => ?_) (fun i g hi hI => ?_) (fun g hI => ?_) (f := f1) E1
  · obtain ⟨g1, A1, A2, A3, A4⟩ := W1
    rw [show p + (s - p) = s by omega] at A4
    have A1' : W_X7_token_1 [.ref 103] (memOf f1) = some (.inl ([.ref 103], memOf g1)) := A1
    have tp1 := tp g1 A2 (A3 12 (by omega))
    have by1 := X7_byteAt g1 tp1 (i := s) (by omega)
    have l1 := fun M => let_b (T := T) (t := t) (i := s) (hb s) M
    have d1 := fun M => dig_b (T := T) (t := t) (i := s) (hb s) M
    have l12 : g1 103 12 = nI t := tp1.1
    obtain ⟨e0, he0⟩ : ∃ e0, e0 = if s < t then s + 1 else s := ⟨_, rfl⟩
    obtain ⟨g2, h2⟩ : ∃ g2, g2 = row g1 103 (upd (g1 103) 14 (nI e0)) := ⟨_, rfl⟩
    have w2 := p_103_14 g1 (nI e0)
    rw [← h2] at w2
    have G : (∀ x, x ≠ 103 → g2 x = f x) ∧ (∀ y, y ≠ 13 → y ≠ 14 → g2 103 y = f 103 y) ∧ g2 103 13 = nI s ∧ g2 103 14 = nI e0 := ⟨fun x hx => by rw [h2, row_ne _ _ hx]; exact A2 x hx, fun y a b => by rw [h2, row_self, upd_ne _ _ b]; exact A3 y a, by rw [h2, row_self, upd_ne _ _ (by omega)]; exact A4, by rw [h2, row_self, upd_self]⟩
    obtain ⟨G1, G2, G3, G4⟩ := G
    have fin : ∀ g3 : FN, W_X7_token_2 [.ref 103, .int (b2i (letB T t s 1)), .int (b2i (letB T t s 2))] (memOf g2) = some (.inl ([.ref 103, .int (b2i (letB T t s 1)), .int (b2i (letB T t s 2))], memOf g3)) → D_X7_token [.ref 103] (memOf f) = some (.null, memOf g3) := fun g3 hW => by
      by_cases c : s < t
      · have ee : nI s < nI t := (nI_lt_iff (by omega) (by omega)).mpr c
        rw [he0, if_pos c] at w2
        simp [D_X7_token, S_X7_token, m_den, l0, Value.category, s_seq, s_if, s_st, s_ret, s_retz, s_retv, s_skip, s_sc, s_inc, s_call, e_c, e_li, e_lr, e_lj, e_un, e_bin, e_if, e_b, b_not, b_and, b_or, b_of, e_call, a_recv, a_snoc, a_nil, prI, prJ, prR, e_gi, e_gr, e_ai, e_ar, s_as, s_aop, s_pf, s_pfz, s_fop, l_set, l_ok, e_div, e_rem, e_len, s_tab, g_103_14, hp, w1, A1', g_103_13, A4, rc_103, by1, l1, d1, g_103_12, l12, ee, nI_next, w2, hW]
      · have ee : ¬ nI s < nI t := fun q => c ((nI_lt_iff (by omega) (by omega)).mp q)
        rw [he0, if_neg c] at w2
        simp [D_X7_token, S_X7_token, m_den, l0, Value.category, s_seq, s_if, s_st, s_ret, s_retz, s_retv, s_skip, s_sc, s_inc, s_call, e_c, e_li, e_lr, e_lj, e_un, e_bin, e_if, e_b, b_not, b_and, b_or, b_of, e_call, a_recv, a_snoc, a_nil, prI, prJ, prR, e_gi, e_gr, e_ai, e_ar, s_as, s_aop, s_pf, s_pfz, s_fop, l_set, l_ok, e_div, e_rem, e_len, s_tab, g_103_14, hp, w1, A1', g_103_13, A4, rc_103, by1, l1, d1, g_103_12, l12, ee, w2, hW]
    -- the condition of the second loop
    have cond : ∀ (g : FN) (j : Nat), j ≤ 121 → (∀ x, x ≠ 103 → g x = f x) → g 103 12 = f 103 12 → g 103 14 = nI j → WB_X7_token_2 [.ref 103, .int (b2i (letB T t s 1)), .int (b2i (letB T t s 2))] (memOf g) = some ((letB T t s 1 && letB T t j 1) || (letB T t s 2 && letB T t j 2), memOf g) := fun g j hj a b c => by
      have by2 := X7_byteAt g (tp g a b) (i := j) (by omega)
      have l2 := fun M => let_b (T := T) (t := t) (i := j) (hb j) M
      have d2 := fun M => dig_b (T := T) (t := t) (i := j) (hb j) M
      cases h1 : letB T t s 1 <;> cases h2 : letB T t s 2 <;> cases h3 : letB T t j 1 <;> cases h4 : letB T t j 2 <;> simp [WB_X7_token_2, m_den, l0, Value.category, s_seq, s_if, s_st, s_ret, s_retz, s_retv, s_skip, s_sc, s_inc, s_call, e_c, e_li, e_lr, e_lj, e_un, e_bin, e_if, e_b, b_not, b_and, b_or, b_of, e_call, a_recv, a_snoc, a_nil, prI, prJ, prR, e_gi, e_gr, e_ai, e_ar, s_as, s_aop, s_pf, s_pfz, s_fop, l_set, l_ok, e_div, e_rem, e_len, s_tab, b2i, g_103_14, c, rc_103, by2, l2, d2, h3, h4]
    by_cases ck : k = 1 ∨ k = 2
    · rcases k5 with ⟨c1, c2, c3⟩ | ⟨c1, c2, c3, c4, c5, c6⟩
      · omega
      · obtain ⟨d1', d2'⟩ := c6 ck
        have e0s : e0 = s + 1 := by rw [he0, if_pos c1]
        have W2 := while_rel (b := WB_X7_token_2) (s := WS_X7_token_2) (fun _ => [.ref 103, .int (b2i (letB T t s 1)), .int (b2i (letB T t s 2))]) (fun i g => (∀ x, x ≠ 103 → g x = f x) ∧ (∀ y, y ≠ 13 → y ≠ 14 → g 103 y = f 103 y) ∧ g 103 13 = nI s ∧ g 103 14 = nI (s + 1 + i)) (e - (s + 1)) (by unfold FU; omega) (fun i g hi hI => ?_) (fun i g hi hI => ?_) (fun g hI => ?_) (f := g2) ⟨G1, G2, G3, by rw [G4, e0s]⟩
        · obtain ⟨g3, B1, B2, B3, B4, B5⟩ := W2
          exact ⟨g3, fin g3 B1, B2, B3, B4, by rw [B5, show s + 1 + (e - (s + 1)) = e by omega]⟩
        · rw [cond g (s + 1 + i) (by omega) hI.1 (hI.2.1 12 (by omega) (by omega)) hI.2.2.2]
          have hs := d1' (s + 1 + i) (by omega) (by omega)
          rcases ck with ck | ck
          · have x1 : letB T t s 1 = true := decide_eq_true ⟨c1, by rw [← c2]; exact ck⟩
            have x2 : letB T t (s + 1 + i) 1 = true := decide_eq_true ⟨by omega, by rw [hs]; exact ck⟩
            rw [x1, x2]; rfl
          · have x1 : letB T t s 2 = true := decide_eq_true ⟨c1, by rw [← c2]; exact ck⟩
            have x2 : letB T t (s + 1 + i) 2 = true := decide_eq_true ⟨by omega, by rw [hs]; exact ck⟩
            rw [x1, x2, Bool.true_and, Bool.or_true]
        · refine ⟨row g 103 (upd (g 103) 14 (nI (s + 1 + i) + 1)), ?_, fun x hx => by rw [row_ne _ _ hx]; exact hI.1 x hx, fun y a b => by rw [row_self, upd_ne _ _ b]; exact hI.2.1 y a b, by rw [row_self, upd_ne _ _ (by omega)]; exact hI.2.2.1, by rw [row_self, upd_self, nI_next]; rfl⟩
          simp [WS_X7_token_2, m_den, l0, Value.category, s_seq, s_if, s_st, s_ret, s_retz, s_retv, s_skip, s_sc, s_inc, s_call, e_c, e_li, e_lr, e_lj, e_un, e_bin, e_if, e_b, b_not, b_and, b_or, b_of, e_call, a_recv, a_snoc, a_nil, prI, prJ, prR, e_gi, e_gr, e_ai, e_ar, s_as, s_aop, s_pf, s_pfz, s_fop, l_set, l_ok, e_div, e_rem, e_len, s_tab, g_103_14, hI.2.2.2, p_103_14]
        · have h14 := hI.2.2.2
          rw [show s + 1 + (e - (s + 1)) = e by omega] at h14
          rw [cond g e (by omega) hI.1 (hI.2.1 12 (by omega) (by omega)) h14]
          have y1 : (letB T t s 1 && letB T t e 1) = false := by
            by_cases z : letB T t s 1 = true ∧ letB T t e 1 = true
            · have za := of_decide_eq_true z.1
              have zb := of_decide_eq_true z.2
              exact absurd ⟨zb.1, by rw [c2, za.2]; exact zb.2⟩ d2'
            · cases h1 : letB T t s 1 <;> cases h2 : letB T t e 1 <;> simp_all
          have y2 : (letB T t s 2 && letB T t e 2) = false := by
            by_cases z : letB T t s 2 = true ∧ letB T t e 2 = true
            · have za := of_decide_eq_true z.1
              have zb := of_decide_eq_true z.2
              exact absurd ⟨zb.1, by rw [c2, za.2]; exact zb.2⟩ d2'
            · cases h1 : letB T t s 2 <;> cases h2 : letB T t e 2 <;> simp_all
          rw [y1, y2]; rfl
    · have ee : e = e0 := by
        rcases k5 with ⟨c1, c2, c3⟩ | ⟨c1, c2, c3, c4, c5, c6⟩
        · rw [he0, if_neg (by omega)]; exact c3
        · rw [he0, if_pos c1]; exact c5 ck
      refine ⟨g2, fin g2 ?_, G1, G2, G3, by rw [ee]; exact G4⟩
      obtain ⟨m, hm⟩ : ∃ m, FU = m + 1 := ⟨FU - 1, by unfold FU; omega⟩
      unfold W_X7_token_2
      rw [hm]
      refine while_end ?_
      rw [cond g2 e0 (by rw [he0]; split <;> omega) G1 (G2 12 (by omega) (by omega)) G4]
      have ns : ∀ j, j = 1 ∨ j = 2 → letB T t s j = false := fun j hj => by
        refine decide_eq_false (fun q => ?_)
        rcases k5 with ⟨c1, c2, c3⟩ | ⟨c1, c2, c3, c4, c5, c6⟩
        · omega
        · exact ck (by rw [c2, q.2]; exact hj)
      rw [ns 1 (Or.inl rfl), ns 2 (Or.inr rfl)]; rfl
  · have h3 := k3 (p + i) (by omega) (by omega)
    have by1 := X7_byteAt g (tp g hI.1 (hI.2.1 12 (by omega))) (i := p + i) (by omega)
    have eb : bAt T t (p + i) = nI 32 := by unfold bAt; rw [if_pos h3.1, h3.2]
    rw [eb] at by1
    have q : (nI 32 = (32 : Int32)) = True := eq_true rfl
    simp [WB_X7_token_1, m_den, l0, Value.category, s_seq, s_if, s_st, s_ret, s_retz, s_retv, s_skip, s_sc, s_inc, s_call, e_c, e_li, e_lr, e_lj, e_un, e_bin, e_if, e_b, b_not, b_and, b_or, b_of, e_call, a_recv, a_snoc, a_nil, prI, prJ, prR, e_gi, e_gr, e_ai, e_ar, s_as, s_aop, s_pf, s_pfz, s_fop, l_set, l_ok, e_div, e_rem, e_len, s_tab, g_103_13, hI.2.2, rc_103, by1, q]
  · refine ⟨row g 103 (upd (g 103) 13 (nI (p + i) + 1)), ?_, fun x hx => by rw [row_ne _ _ hx]; exact hI.1 x hx, fun y hy => by rw [row_self, upd_ne _ _ hy]; exact hI.2.1 y hy, by rw [row_self, upd_self, nI_next]; rfl⟩
    simp [WS_X7_token_1, m_den, l0, Value.category, s_seq, s_if, s_st, s_ret, s_retz, s_retv, s_skip, s_sc, s_inc, s_call, e_c, e_li, e_lr, e_lj, e_un, e_bin, e_if, e_b, b_not, b_and, b_or, b_of, e_call, a_recv, a_snoc, a_nil, prI, prJ, prR, e_gi, e_gr, e_ai, e_ar, s_as, s_aop, s_pf, s_pfz, s_fop, l_set, l_ok, e_div, e_rem, e_len, s_tab, g_103_13, hI.2.2, p_103_13]
  · have hI3 := hI.2.2
    rw [show p + (s - p) = s by omega] at hI3
    have by1 := X7_byteAt g (tp g hI.1 (hI.2.1 12 (by omega))) (i := s) (by omega)
    have nb : ¬ bAt T t s = 32 := by
      unfold bAt
      by_cases c : s < t
      · rw [if_pos c]
        have h := hb s c
        exact fun q => k4 ⟨c, (nI_inj (a := T s) (b := 32) (by omega) (by omega)).mp q⟩
      · rw [if_neg c]; decide
    simp [WB_X7_token_1, m_den, l0, Value.category, s_seq, s_if, s_st, s_ret, s_retz, s_retv, s_skip, s_sc, s_inc, s_call, e_c, e_li, e_lr, e_lj, e_un, e_bin, e_if, e_b, b_not, b_and, b_or, b_of, e_call, a_recv, a_snoc, a_nil, prI, prJ, prR, e_gi, e_gr, e_ai, e_ar, s_as, s_aop, s_pf, s_pfz, s_fop, l_set, l_ok, e_div, e_rem, e_len, s_tab, g_103_13, hI3, rc_103, by1, nb]
