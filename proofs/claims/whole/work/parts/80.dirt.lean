/-! dirt; worst -/
theorem updN_same (tr : Nat → Nat) (j : Nat) : updN tr j (tr j) = tr := by
  funext i; unfold updN
  by_cases c : i = j
  · rw [if_pos c, c]
  · rw [if_neg c]
theorem X6_playDirt (f : FN) {m : Nat} {TRS : Nat → Nat → Nat} {ro : Nat → Option Nat} {wd : Nat → Nat} {Q : Nat → SMK} {bo : Nat → Int} {h : Nat} (w : TW f m TRS ro wd Q bo h) {o n : Nat} (ho : o < 6) (hN : h + n ≤ 9999) : ∃ g, D_X6_playDirt [.ref 0, .int (nI o), .int (nI n)] (memOf f) = some (.null, memOf g) ∧ (∀ x, ¬ (82 ≤ x ∧ x ≤ 92) → g x = f x) ∧ ∀ c, c < m → g 91 c = nI (gD (TRS c) wd ro h (Q c) n o) ∧ g 92 c = nI (gD (updN (TRS c) 6 0) wd ro h (Q c) n o) := by
  have m8 := w.2.1.1.2
  have key := while_rel (b := WB_X6_playDirt_1) (s := WS_X6_playDirt_1) (fun c => [.ref 0, .int (nI o), .int (nI n), .int (nI c)]) (fun c g => (∀ x, ¬ (82 ≤ x ∧ x ≤ 92) → g x = f x) ∧ ∀ i, i < c → g 91 i = nI (gD (TRS i) wd ro h (Q i) n o) ∧ g 92 i = nI (gD (updN (TRS i) 6 0) wd ro h (Q i) n o)) m (by unfold FU; omega) (fun c g hc hI => ?_) (fun c g hc hI => ?_) (fun g hI => ?_) (f := f) ⟨fun _ _ => rfl, fun i hi => absurd hi (by omega)⟩
  · obtain ⟨g, W, I1, I2⟩ := key
    refine ⟨g, ?_, I1, I2⟩
    have W' : W_X6_playDirt_1 [.ref 0, .int (nI o), .int (nI n), .int 0] (memOf f) = some (.inl ([.ref 0, .int (nI o), .int (nI n), .int (nI m)], memOf g)) := W
    simp [D_X6_playDirt, S_X6_playDirt, m_den, l0, Value.category, s_seq, s_if, s_st, s_ret, s_retz, s_retv, s_skip, s_sc, s_inc, s_call, e_c, e_li, e_lr, e_lj, e_un, e_bin, e_if, e_b, b_not, b_and, b_or, b_of, e_call, a_recv, a_snoc, a_nil, prI, prJ, prR, e_gi, e_gr, e_ai, e_ar, s_as, s_aop, s_pf, s_pfz, s_fop, l_set, l_ok, e_div, e_rem, e_len, s_tab, W']
  · have e1 : g 1 2 = nI m := by rw [hI.1 1 (by omega)]; exact w.1.2.2.2
    have e : nI c < nI m := (nI_lt_iff (by omega) (by omega)).mpr hc
    simp [WB_X6_playDirt_1, m_den, l0, Value.category, s_seq, s_if, s_st, s_ret, s_retz, s_retv, s_skip, s_sc, s_inc, s_call, e_c, e_li, e_lr, e_lj, e_un, e_bin, e_if, e_b, b_not, b_and, b_or, b_of, e_call, a_recv, a_snoc, a_nil, prI, prJ, prR, e_gi, e_gr, e_ai, e_ar, s_as, s_aop, s_pf, s_pfz, s_fop, l_set, l_ok, e_div, e_rem, e_len, s_tab, g_0_0, g_1_2, e1, e]
  · obtain ⟨I1, I2⟩ := hI
    have wg := w.congr (g := g) (fun j hj => I1 j (by omega)) (I1 104 (by omega))
    have hC := isCh_town (b := 1) (c := c) (Or.inl rfl) (by omega)
    have hb := (w.2.1.2.1 c hc).2
    have t6 := (wg.2.2.1 c hc).2.2 6 (by omega)
    obtain ⟨g2, P1, P2, P3, P4⟩ := X6_playWith g wg hc (j := 6) (by omega) (v := TRS c 6) (hb 6 (by omega)) hN
    rw [updN_same, tlR_0] at P4
    have r := rd_89 g2 ho
    rw [P4.2.2.2 _ ho] at r
    have r1 : gm_rd (memOf g2) 89 (nI o) = some (nI (gD (TRS c) wd ro h (Q c) n o)) := by
      rw [r]; simp only [tl0, Nat.zero_add]; rfl
    obtain ⟨g3, h3⟩ : ∃ g3, g3 = row g2 91 (upd (g2 91) c (nI (gD (TRS c) wd ro h (Q c) n o))) := ⟨_, rfl⟩
    have w3 := wr_91 g2 (show c < 8 by omega) (nI (gD (TRS c) wd ro h (Q c) n o))
    rw [← h3] at w3
    have F3 : ∀ x, ¬ (82 ≤ x ∧ x ≤ 89) → x ≠ 91 → g3 x = g x := fun x h1 h2 => by rw [h3, row_ne _ _ h2, P2 x h1]
    have wg3 := w.congr (g := g3) (fun j hj => by rw [F3 j (by omega) (by omega)]; exact I1 j (by omega)) (by rw [F3 104 (by omega) (by omega)]; exact I1 104 (by omega))
    obtain ⟨g4, S1, S2, S3, S4⟩ := X6_playWith g3 wg3 hc (j := 6) (by omega) (v := 0) (Nat.zero_le _) hN
    rw [tlR_0] at S4
    have r2 := rd_89 g4 ho
    rw [S4.2.2.2 _ ho] at r2
    have r3 : gm_rd (memOf g4) 89 (nI o) = some (nI (gD (updN (TRS c) 6 0) wd ro h (Q c) n o)) := by
      rw [r2]; simp only [tl0, Nat.zero_add]; rfl
    obtain ⟨g5, h5⟩ : ∃ g5, g5 = row g4 92 (upd (g4 92) c (nI (gD (updN (TRS c) 6 0) wd ro h (Q c) n o))) := ⟨_, rfl⟩
    have w5 := wr_92 g4 (show c < 8 by omega) (nI (gD (updN (TRS c) 6 0) wd ro h (Q c) n o))
    rw [← h5] at w5
    refine ⟨g5, ?_, fun x hx => by rw [h5, row_ne _ _ (by omega), S2 x (by omega), F3 x (by omega) (by omega)]; exact I1 x hx, fun i hi => ⟨?_, ?_⟩⟩
    · have z : nI 6 = 6 := rfl
      have z0 : nI 0 = 0 := rfl
      rw [z] at P1
      rw [z, z0] at S1
      simp [WS_X6_playDirt_1, m_den, l0, Value.category, s_seq, s_if, s_st, s_ret, s_retz, s_retv, s_skip, s_sc, s_inc, s_call, e_c, e_li, e_lr, e_lj, e_un, e_bin, e_if, e_b, b_not, b_and, b_or, b_of, e_call, a_recv, a_snoc, a_nil, prI, prJ, prR, e_gi, e_gr, e_ai, e_ar, s_as, s_aop, s_pf, s_pfz, s_fop, l_set, l_ok, e_div, e_rem, e_len, s_tab, rc_0, g_0_0, g_1_7, rr_6 g (show c < 8 by omega), gch0 g hC, rdt6 g hC, t6, P1, g_0_9, g_0_7, g_86_3, r1, w3, S1, g_0_10, r3, w5, nI_next]
    · rw [h5, row_ne _ _ (by omega), S2 91 (by omega), h3, row_self]
      by_cases e : i = c
      · subst e; rw [upd_self]
      · rw [upd_ne _ _ e, P2 91 (by omega)]; exact (I2 i (by omega)).1
    · rw [h5, row_self]
      by_cases e : i = c
      · subst e; rw [upd_self]
      · rw [upd_ne _ _ e, S2 92 (by omega), F3 92 (by omega) (by omega)]; exact (I2 i (by omega)).2
  · have e1 : g 1 2 = nI m := by rw [hI.1 1 (by omega)]; exact w.1.2.2.2
    have e : ¬ nI m < nI m := Int32.lt_irrefl
    simp [WB_X6_playDirt_1, m_den, l0, Value.category, s_seq, s_if, s_st, s_ret, s_retz, s_retv, s_skip, s_sc, s_inc, s_call, e_c, e_li, e_lr, e_lj, e_un, e_bin, e_if, e_b, b_not, b_and, b_or, b_of, e_call, a_recv, a_snoc, a_nil, prI, prJ, prR, e_gi, e_gr, e_ai, e_ar, s_as, s_aop, s_pf, s_pfz, s_fop, l_set, l_ok, e_div, e_rem, e_len, s_tab, g_0_0, g_1_2, e1, e]
def bitI (s c : Int32) : Int32 := (s >>> (c &&& 31)) &&& 1
theorem X6_dirtWith (f : FN) {m : Nat} (hm : m ≤ 8) (em : f 1 2 = nI m) (s : Int32) : D_X6_dirtWith [.ref 0, .int s] (memOf f) = some (.int (sumI m (fun c => if bitI s (nI c) = 1 then f 91 c else f 92 c)), memOf f) := by
  have W : W_X6_dirtWith_1 [.ref 0, .int s, .int 0, .int 0] (memOf f) = some (.inl ([.ref 0, .int s, .int (sumI m (fun c => if bitI s (nI c) = 1 then f 91 c else f 92 c)), .int (nI m)], memOf f)) := by
    have key := while_count (b := WB_X6_dirtWith_1) (s := WS_X6_dirtWith_1) (fun k => ([.ref 0, .int s, .int (sumI k (fun c => if bitI s (nI c) = 1 then f 91 c else f 92 c)), .int (nI k)], memOf f)) m (by unfold FU; omega) (fun k hk => ?_) (fun k hk => ?_) ?_
    · exact key
    · have e : nI k < nI m := (nI_lt_iff (by omega) (by omega)).mpr hk
      simp [WB_X6_dirtWith_1, m_den, l0, Value.category, s_seq, s_if, s_st, s_ret, s_retz, s_retv, s_skip, s_sc, s_inc, s_call, e_c, e_li, e_lr, e_lj, e_un, e_bin, e_if, e_b, b_not, b_and, b_or, b_of, e_call, a_recv, a_snoc, a_nil, prI, prJ, prR, e_gi, e_gr, e_ai, e_ar, s_as, s_aop, s_pf, s_pfz, s_fop, l_set, l_ok, e_div, e_rem, e_len, s_tab, g_0_0, g_1_2, em, e]
    · have b : s >>> (nI k &&& 31) &&& 1 = bitI s (nI k) := rfl
      by_cases c : bitI s (nI k) = 1
      · simp [WS_X6_dirtWith_1, m_den, l0, Value.category, s_seq, s_if, s_st, s_ret, s_retz, s_retv, s_skip, s_sc, s_inc, s_call, e_c, e_li, e_lr, e_lj, e_un, e_bin, e_if, e_b, b_not, b_and, b_or, b_of, e_call, a_recv, a_snoc, a_nil, prI, prJ, prR, e_gi, e_gr, e_ai, e_ar, s_as, s_aop, s_pf, s_pfz, s_fop, l_set, l_ok, e_div, e_rem, e_len, s_tab, b, eq_true c, g_0_9, rd_91 f (show k < 8 by omega), nI_next, sumI]
      · simp [WS_X6_dirtWith_1, m_den, l0, Value.category, s_seq, s_if, s_st, s_ret, s_retz, s_retv, s_skip, s_sc, s_inc, s_call, e_c, e_li, e_lr, e_lj, e_un, e_bin, e_if, e_b, b_not, b_and, b_or, b_of, e_call, a_recv, a_snoc, a_nil, prI, prJ, prR, e_gi, e_gr, e_ai, e_ar, s_as, s_aop, s_pf, s_pfz, s_fop, l_set, l_ok, e_div, e_rem, e_len, s_tab, b, c, g_0_10, rd_92 f (show k < 8 by omega), nI_next, sumI]
    · have e : ¬ nI m < nI m := Int32.lt_irrefl
      simp [WB_X6_dirtWith_1, m_den, l0, Value.category, s_seq, s_if, s_st, s_ret, s_retz, s_retv, s_skip, s_sc, s_inc, s_call, e_c, e_li, e_lr, e_lj, e_un, e_bin, e_if, e_b, b_not, b_and, b_or, b_of, e_call, a_recv, a_snoc, a_nil, prI, prJ, prR, e_gi, e_gr, e_ai, e_ar, s_as, s_aop, s_pf, s_pfz, s_fop, l_set, l_ok, e_div, e_rem, e_len, s_tab, g_0_0, g_1_2, em, e]
  simp [D_X6_dirtWith, S_X6_dirtWith, m_den, l0, Value.category, s_seq, s_if, s_st, s_ret, s_retz, s_retv, s_skip, s_sc, s_inc, s_call, e_c, e_li, e_lr, e_lj, e_un, e_bin, e_if, e_b, b_not, b_and, b_or, b_of, e_call, a_recv, a_snoc, a_nil, prI, prJ, prR, e_gi, e_gr, e_ai, e_ar, s_as, s_aop, s_pf, s_pfz, s_fop, l_set, l_ok, e_div, e_rem, e_len, s_tab, W]
theorem bw_fin : ∀ m : Fin 9, ∀ c : Fin 8, ∀ i : Fin 8, c.1 < m.1 → i.1 < m.1 → (bitI (((1 : Int32) <<< (nI m.1 &&& 31) - 1) &&& ((1 : Int32) <<< (nI c.1 &&& 31) ^^^ -1)) (nI i.1) = 1 ↔ i.1 ≠ c.1) := by decide +kernel
theorem dw_worst {f : FN} {m c : Nat} {lit out : Nat → Nat} (hm : m ≤ 8) (hc : c < m) (h : ∀ c, c < m → f 91 c = nI (lit c) ∧ f 92 c = nI (out c)) : sumI m (fun i => if bitI (((1 : Int32) <<< (nI m &&& 31) - 1) &&& ((1 : Int32) <<< (nI c &&& 31) ^^^ -1)) (nI i) = 1 then f 91 i else f 92 i) = nI (csI m (fun i => if i = c then 0 else lit i) + out c) := by
  have e : csI m (fun i => if i = c then 0 else lit i) + out c = csI m (fun i => if i = c then out c else lit i) := by
    rw [csI_split (fun i => if i = c then out c else lit i) hc, if_pos rfl]
    congr 1
    exact csI_congr (fun i _ => by by_cases q : i = c <;> simp [q])
  rw [e]
  refine sumI_nI (fun i hi => ?_)
  have b := bw_fin ⟨m, by omega⟩ ⟨c, by omega⟩ ⟨i, by omega⟩ hc hi
  simp only at b
  by_cases q : i = c
  · rw [if_neg (fun z => b.mp z q), if_pos q, q]; exact (h c hc).2
  · rw [if_pos (b.mpr q), if_neg q]; exact (h i hi).1
theorem X6_worst_W (f : FN) {m : Nat} (hm : m ≤ 8) (em : f 1 2 = nI m) {o n : Int32} {X : Nat → Int32} {B : Nat → Nat → Bool} (hX : ∀ c, c < m → sumI m (fun i => if bitI (((1 : Int32) <<< (nI m &&& 31) - 1) &&& ((1 : Int32) <<< (nI c &&& 31) ^^^ -1)) (nI i) = 1 then f 91 i else f 92 i) = X c) (eB : B = fun v b => decide (X v < X b)) : ∃ y, W_X6_worst_1 [.ref 0, .int o, .int n, .int ((1 : Int32) <<< (nI m &&& 31) - 1), .int 0, .int 0, .int 0] (memOf f) = some (.inl ([.ref 0, .int o, .int n, .int ((1 : Int32) <<< (nI m &&& 31) - 1), .int (bI 0 B m), .int y, .int (nI m)], memOf f)) := by
  obtain ⟨al, eal⟩ : ∃ al, al = (1 : Int32) <<< (nI m &&& 31) - 1 := ⟨_, rfl⟩
  rw [← eal] at hX ⊢
  have key := while_count (b := WB_X6_worst_1) (s := WS_X6_worst_1) (fun i => ([.ref 0, .int o, .int n, .int al, .int (bI 0 B i), .int (mI X B i), .int (nI i)], memOf f)) m (by unfold FU; omega) (fun i hi => ?_) (fun i hi => ?_) ?_
  · exact ⟨_, key⟩
  · have e : nI i < nI m := (nI_lt_iff (by omega) (by omega)).mpr hi
    simp [WB_X6_worst_1, m_den, l0, Value.category, s_seq, s_if, s_st, s_ret, s_retz, s_retv, s_skip, s_sc, s_inc, s_call, e_c, e_li, e_lr, e_lj, e_un, e_bin, e_if, e_b, b_not, b_and, b_or, b_of, e_call, a_recv, a_snoc, a_nil, prI, prJ, prR, e_gi, e_gr, e_ai, e_ar, s_as, s_aop, s_pf, s_pfz, s_fop, l_set, l_ok, e_div, e_rem, e_len, s_tab, g_0_0, g_1_2, em, e]
  · have dw := X6_dirtWith f hm em (al &&& ((1 : Int32) <<< (nI i &&& 31) ^^^ -1))
    rw [hX i hi, Int32.xor_neg_one] at dw
    cases i with
    | zero =>
      have q : (nI 0 = 0) = True := eq_true rfl
      simp [WS_X6_worst_1, m_den, l0, Value.category, s_seq, s_if, s_st, s_ret, s_retz, s_retv, s_skip, s_sc, s_inc, s_call, e_c, e_li, e_lr, e_lj, e_un, e_bin, e_if, e_b, b_not, b_and, b_or, b_of, e_call, a_recv, a_snoc, a_nil, prI, prJ, prR, e_gi, e_gr, e_ai, e_ar, s_as, s_aop, s_pf, s_pfz, s_fop, l_set, l_ok, e_div, e_rem, e_len, s_tab, rc_0, dw, q, bI, mI, am, nI_next]
    | succ i =>
      have q : (nI (i + 1) = 0) = False := eq_false (fun e => absurd ((nI_inj (a := i + 1) (b := 0) (by omega) (by omega)).mp e) (by omega))
      by_cases c : X (i + 1) < X (am B i)
      · simp [WS_X6_worst_1, m_den, l0, Value.category, s_seq, s_if, s_st, s_ret, s_retz, s_retv, s_skip, s_sc, s_inc, s_call, e_c, e_li, e_lr, e_lj, e_un, e_bin, e_if, e_b, b_not, b_and, b_or, b_of, e_call, a_recv, a_snoc, a_nil, prI, prJ, prR, e_gi, e_gr, e_ai, e_ar, s_as, s_aop, s_pf, s_pfz, s_fop, l_set, l_ok, e_div, e_rem, e_len, s_tab, rc_0, dw, q, bI, mI, c, am_yes eB c, nI_next]
      · simp [WS_X6_worst_1, m_den, l0, Value.category, s_seq, s_if, s_st, s_ret, s_retz, s_retv, s_skip, s_sc, s_inc, s_call, e_c, e_li, e_lr, e_lj, e_un, e_bin, e_if, e_b, b_not, b_and, b_or, b_of, e_call, a_recv, a_snoc, a_nil, prI, prJ, prR, e_gi, e_gr, e_ai, e_ar, s_as, s_aop, s_pf, s_pfz, s_fop, l_set, l_ok, e_div, e_rem, e_len, s_tab, rc_0, dw, q, bI, mI, c, am_no eB c, nI_next]
  · have e : ¬ nI m < nI m := Int32.lt_irrefl
    simp [WB_X6_worst_1, m_den, l0, Value.category, s_seq, s_if, s_st, s_ret, s_retz, s_retv, s_skip, s_sc, s_inc, s_call, e_c, e_li, e_lr, e_lj, e_un, e_bin, e_if, e_b, b_not, b_and, b_or, b_of, e_call, a_recv, a_snoc, a_nil, prI, prJ, prR, e_gi, e_gr, e_ai, e_ar, s_as, s_aop, s_pf, s_pfz, s_fop, l_set, l_ok, e_div, e_rem, e_len, s_tab, g_0_0, g_1_2, em, e]
theorem X7_worst_W (f : FN) {m : Nat} {TRS : Nat → Nat → Nat} {ro : Nat → Option Nat} {wd : Nat → Nat} {Q : Nat → SMK} {bo : Nat → Int} {h : Nat} (w : TW f m TRS ro wd Q bo h) (h6 : ∀ y, y < 735 → f 106 y = f 104 y) {o n : Nat} (ho : o < 6) (hn : n ≤ 24) (hN : h + n ≤ 9999) {X : Nat → Int32} {B : Nat → Nat → Bool} (hX : ∀ k, k < m → nI (restD TRS wd ro h Q m n k o + gD (updN (TRS k) 6 0) wd ro h (Q k) n o) = X k) (eB : B = fun v b => decide (X v < X b)) : ∃ y g, W_X7_worst_1 [.ref 103, .int (nI o), .int (nI n), .int (-1), .int 0, .int 0] (memOf f) = some (.inl ([.ref 103, .int (nI o), .int (nI n), .int (bI (-1) B m), .int y, .int (nI m)], memOf g)) ∧ (∀ x, x ≠ 103 → x ≠ 108 → x ≠ 109 → g x = f x) ∧ ∀ y, y ≠ 9 → g 103 y = f 103 y := by
  have hAl := w.A_le
  have m8 := w.2.1.1.2
  obtain ⟨⟨b1, b2, b3, b4⟩, hS, sp, ro', wd', bk', tk, bn⟩ := id w
  have key := while_rel (b := WB_X7_worst_1) (s := WS_X7_worst_1) (fun i => [.ref 103, .int (nI o), .int (nI n), .int (bI (-1) B i), .int (mI X B i), .int (nI i)]) (fun i g => (∀ x, x ≠ 103 → x ≠ 108 → x ≠ 109 → g x = f x) ∧ ∀ y, y ≠ 9 → g 103 y = f 103 y) m (by unfold FU; omega) (fun i g hi hI => ?_) (fun i g hi hI => ?_) (fun g hI => ?_) (f := f) ⟨fun _ _ _ _ => rfl, fun _ _ => rfl⟩
  · obtain ⟨g, W, I⟩ := key
    exact ⟨_, g, W, I⟩
  · have e1 : g 104 1 = nI m := by rw [hI.1 104 (by omega) (by omega) (by omega)]; exact hS.1.1
    have e : nI i < nI m := (nI_lt_iff (by omega) (by omega)).mpr hi
    simp [WB_X7_worst_1, m_den, l0, Value.category, s_seq, s_if, s_st, s_ret, s_retz, s_retv, s_skip, s_sc, s_inc, s_call, e_c, e_li, e_lr, e_lj, e_un, e_bin, e_if, e_b, b_not, b_and, b_or, b_of, e_call, a_recv, a_snoc, a_nil, prI, prJ, prR, e_gi, e_gr, e_ai, e_ar, s_as, s_aop, s_pf, s_pfz, s_fop, l_set, l_ok, e_div, e_rem, e_len, s_tab, g_103_0, rd_104_1, e1, e]
  · obtain ⟨I1, I2⟩ := hI
    have e4 := I1 104 (by omega) (by omega) (by omega)
    obtain ⟨g1, h1⟩ : ∃ g1, g1 = row g 104 (upd (g 104) (63 + 7 * i + 6) 0) := ⟨_, rfl⟩
    have wr := wr_104 g (show 63 + 7 * i + 6 < 735 by omega) 0
    rw [← h1] at wr
    have g14 : g1 104 = upd (f 104) (63 + 7 * i + 6) (nI 0) := by rw [h1, row_self, e4]; rfl
    have hS1 : HSt (g1 104) m (updT TRS i (updN (TRS i) 6 0)) ro wd := by rw [g14]; exact hS.trait hi (by omega) (Nat.zero_le _)
    obtain ⟨g2, P1, P2, P3, P4⟩ := X7_dirtIn g1 (n := n) (o := o) (Q := Q) (s0 := f 104) hS1 (by rw [g14, upd_ne _ _ (by omega)]; exact b2) (fun x hx => by
      rw [g14]; exact (sp x hx).1.sig (fun y hy => upd_ne _ _ (by unfold inCh at hy; omega))) hAl hN (fun y hy => by rw [h1, row_ne _ _ (by omega), I1 106 (by omega) (by omega) (by omega)]; exact h6 y hy) (fun y hy => by rw [g14, upd_ne _ _ (by omega)]) ho
    rw [dirt_split hi, hX i hi] at P1
    refine ⟨g2, ?_, fun x c1 c2 c3 => ?_, fun y hy => by rw [P4 y hy, h1, row_ne _ _ (by omega)]; exact I2 y hy⟩
    · cases i with
      | zero =>
        have q : ((-1 : Int32) < 0) = True := eq_true (by decide)
        simp [WS_X7_worst_1, m_den, l0, Value.category, s_seq, s_if, s_st, s_ret, s_retz, s_retv, s_skip, s_sc, s_inc, s_call, e_c, e_li, e_lr, e_lj, e_un, e_bin, e_if, e_b, b_not, b_and, b_or, b_of, e_call, a_recv, a_snoc, a_nil, prI, prJ, prR, e_gi, e_gr, e_ai, e_ar, s_as, s_aop, s_pf, s_pfz, s_fop, l_set, l_ok, e_div, e_rem, e_len, s_tab, g_103_0, X7_at6, wr, rc_103, P1, bI, mI, am, q, nI_next] at wr ⊢
      | succ i =>
        have q : (nI (am B i) < 0) = False := eq_false (Int32.not_lt.mpr (nI_pos' (by have := am_le B i; omega)))
        by_cases c : X (i + 1) < X (am B i)
        · simp [WS_X7_worst_1, m_den, l0, Value.category, s_seq, s_if, s_st, s_ret, s_retz, s_retv, s_skip, s_sc, s_inc, s_call, e_c, e_li, e_lr, e_lj, e_un, e_bin, e_if, e_b, b_not, b_and, b_or, b_of, e_call, a_recv, a_snoc, a_nil, prI, prJ, prR, e_gi, e_gr, e_ai, e_ar, s_as, s_aop, s_pf, s_pfz, s_fop, l_set, l_ok, e_div, e_rem, e_len, s_tab, g_103_0, X7_at6, wr, rc_103, P1, bI, mI, q, c, am_yes eB c, nI_next]
        · simp [WS_X7_worst_1, m_den, l0, Value.category, s_seq, s_if, s_st, s_ret, s_retz, s_retv, s_skip, s_sc, s_inc, s_call, e_c, e_li, e_lr, e_lj, e_un, e_bin, e_if, e_b, b_not, b_and, b_or, b_of, e_call, a_recv, a_snoc, a_nil, prI, prJ, prR, e_gi, e_gr, e_ai, e_ar, s_as, s_aop, s_pf, s_pfz, s_fop, l_set, l_ok, e_div, e_rem, e_len, s_tab, g_103_0, X7_at6, wr, rc_103, P1, bI, mI, q, c, am_no eB c, nI_next]
    · by_cases c : x = 104
      · subst c; exact P2
      · rw [P3 x c1 c c2 c3, h1, row_ne _ _ c]; exact I1 x c1 c2 c3
  · have e1 : g 104 1 = nI m := by rw [hI.1 104 (by omega) (by omega) (by omega)]; exact hS.1.1
    have e : ¬ nI m < nI m := Int32.lt_irrefl
    simp [WB_X7_worst_1, m_den, l0, Value.category, s_seq, s_if, s_st, s_ret, s_retz, s_retv, s_skip, s_sc, s_inc, s_call, e_c, e_li, e_lr, e_lj, e_un, e_bin, e_if, e_b, b_not, b_and, b_or, b_of, e_call, a_recv, a_snoc, a_nil, prI, prJ, prR, e_gi, e_gr, e_ai, e_ar, s_as, s_aop, s_pf, s_pfz, s_fop, l_set, l_ok, e_div, e_rem, e_len, s_tab, g_103_0, rd_104_1, e1, e]
