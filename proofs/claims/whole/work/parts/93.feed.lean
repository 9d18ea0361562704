/-! feed -/
def shr8 (x y : Int32) : Int32 := (x.toUInt32 >>> (y.toUInt32 &&& Int32.toUInt32 31)).toInt32
def sar8 (x y : Int32) : Int32 := x >>> (y &&& 31)
theorem fd6_eq : WS_X6_feed_1 = (s_seq (s_seq (s_as (e_gr 4 0 (e_lr 3)) (e_gi 4 1 (e_lr 3)) (e_bin (fun (x y : Int32) => x &&& y) (e_bin shr8 (e_li 1) (e_bin (fun (x y : Int32) => x * y) (e_c (8 : Int32)) (e_li 4))) (e_c (255 : Int32))))
  (s_fop (fun (x y : Int32) => x + y) 4 1 (e_lr 3) (e_c (1 : Int32))))
  (s_inc 4 (-1))) := rfl
theorem fd7_eq : WS_X7_feed_1 = (s_seq (s_seq (s_as (e_gr 7 11 (e_lr 0)) (e_gi 7 12 (e_lr 0)) (e_bin (fun (x y : Int32) => x &&& y) (e_bin sar8 (e_li 1) (e_bin (fun (x y : Int32) => x * y) (e_c (8 : Int32)) (e_li 3))) (e_c (255 : Int32))))
  (s_fop (fun (x y : Int32) => x + y) 7 12 (e_lr 0) (e_c (1 : Int32))))
  (s_inc 3 (-1))) := rfl
theorem bit255 {j : Nat} (h : 8 ≤ j) : (255#32).getLsbD j = false := by
  rw [BitVec.getLsbD_ofNat, Nat.testBit_lt_two_pow (Nat.lt_of_lt_of_le (by decide : 255 < 2 ^ 8) (Nat.pow_le_pow_right (by omega) h))]
  simp
theorem and_byte (x : BitVec 32) (n : Nat) (hn : n ≤ 24) : (x >>> n) &&& 255#32 = (x.sshiftRight n) &&& 255#32 := by
  apply BitVec.eq_of_getLsbD_eq
  intro j hj
  rw [BitVec.getLsbD_and, BitVec.getLsbD_and, BitVec.getLsbD_ushiftRight, BitVec.getLsbD_sshiftRight]
  by_cases h8 : 8 ≤ j
  · rw [bit255 h8, Bool.and_false, Bool.and_false]
  · have h1 : n + j < 32 := by omega
    have h2 : ¬ 32 ≤ j := by omega
    simp [h1, h2]
theorem by_ex (a : Int32) : ∃ w, w < 256 ∧ a &&& 255 = nI w := by
  refine ⟨(a &&& 255).toBitVec.toNat, ?_, ?_⟩
  · show (a.toBitVec &&& 255#32).toNat < 256
    rw [BitVec.toNat_and]
    have := Nat.and_le_right (n := a.toBitVec.toNat) (m := (255#32).toNat)
    have e : (255#32).toNat = 255 := rfl
    omega
  · unfold nI
    apply Int32.toBitVec_inj.mp
    show (a &&& 255).toBitVec = BitVec.ofNat 32 (a &&& 255).toBitVec.toNat
    apply BitVec.eq_of_toNat_eq
    rw [BitVec.toNat_ofNat]
    exact (Nat.mod_eq_of_lt (a &&& 255).toBitVec.isLt).symm
theorem fd_byte (v : Int32) {i : Nat} (hi : i < 4) : shr8 v (8 * nI i) &&& 255 = sar8 v (8 * nI i) &&& 255 := by
  have : i = 0 ∨ i = 1 ∨ i = 2 ∨ i = 3 := by omega
  apply Int32.toBitVec_inj.mp
  rcases this with rfl | rfl | rfl | rfl
  · exact and_byte v.toBitVec 0 (by omega)
  · exact and_byte v.toBitVec 8 (by omega)
  · exact and_byte v.toBitVec 16 (by omega)
  · exact and_byte v.toBitVec 24 (by omega)
def lI (n j : Nat) : Int32 := if j < n then nI (n - 1 - j) else -1
theorem lI_in {n j : Nat} (h : j < n) : lI n j = nI (n - 1 - j) := by unfold lI; rw [if_pos h]
theorem lI_next {n j : Nat} (h : j < n) : nI (n - 1 - j) + -1 = lI n (j + 1) := by
  unfold lI
  by_cases c : j + 1 < n
  · rw [if_pos c, nI_m1 (by omega)]; rfl
  · rw [if_neg c, show n - 1 - j = 0 by omega]; rfl
def fdB (v : Int32) (n j : Nat) : Int32 := sar8 v (8 * nI (n - 1 - j)) &&& 255
theorem X6_feed_W (f : FN) {n t : Nat} (v : Int32) (hn : n ≤ 4) (ht : t + n ≤ 120) (et : f 78 1 = nI t) (h0 : 0 < n) : ∃ g, W_X6_feed_1 [.ref 0, .int v, .int (nI n), .ref 78, .int (nI (n - 1))] (memOf f) = some (.inl ([.ref 0, .int v, .int (nI n), .ref 78, .int (lI n n)], memOf g)) ∧ (∀ x, x ≠ 78 → x ≠ 79 → g x = f x) ∧ g 78 1 = nI (t + n) ∧ (∀ y, ¬ (t ≤ y ∧ y < t + n) → g 79 y = f 79 y) ∧ ∀ j, j < n → g 79 (t + j) = fdB v n j := by
  have key := while_rel (b := WB_X6_feed_1) (s := WS_X6_feed_1) (fun j => [.ref 0, .int v, .int (nI n), .ref 78, .int (lI n j)]) (fun j g => (∀ x, x ≠ 78 → x ≠ 79 → g x = f x) ∧ g 78 1 = nI (t + j) ∧ (∀ y, ¬ (t ≤ y ∧ y < t + n) → g 79 y = f 79 y) ∧ ∀ i, i < j → g 79 (t + i) = fdB v n i) n (by unfold FU; omega) (fun j g hj hI => ?_) (fun j g hj hI => ?_) (fun g hI => ?_) (f := f) ⟨fun _ _ _ => rfl, et, fun _ _ => rfl, fun i hi => absurd hi (by omega)⟩
  · have e : lI n 0 = nI (n - 1) := by rw [lI_in h0]; rfl
    simp only [e] at key
    exact key
  · have e : (0 : Int32) ≤ nI (n - 1 - j) := nI_pos' (by omega)
    simp only [lI_in hj]
    simp [WB_X6_feed_1, m_den, l0, Value.category, s_seq, s_if, s_st, s_ret, s_retz, s_retv, s_skip, s_sc, s_inc, s_call, e_c, e_li, e_lr, e_lj, e_un, e_bin, e_if, e_b, b_not, b_and, b_or, b_of, e_call, a_recv, a_snoc, a_nil, prI, prJ, prR, e_gi, e_gr, e_ai, e_ar, s_as, s_aop, s_pf, s_pfz, s_fop, l_set, l_ok, e_div, e_rem, e_len, s_tab, e]
  · obtain ⟨I1, I2, I3, I4⟩ := hI
    refine ⟨row (row g 79 (upd (g 79) (t + j) (fdB v n j))) 78 (upd (g 78) 1 (nI (t + j) + 1)), ?_, fun x c1 c2 => by rw [row_ne _ _ c1, row_ne _ _ c2]; exact I1 x c1 c2, ?_, fun y hy => by rw [row_ne _ _ (by omega), row_self, upd_ne _ _ (by omega)]; exact I3 y hy, fun i hi => ?_⟩
    · have eb : shr8 v (8 * nI (n - 1 - j)) &&& 255 = fdB v n j := fd_byte v (by omega)
      rw [fd6_eq]
      simp only [lI_in hj, ← lI_next hj]
      simp [s_seq, s_as, s_fop, s_inc, e_gr, e_gi, e_lr, e_li, e_bin, e_c, l_set, l_ok, Value.category, g_78_0, g_78_1, I2, eb, wr_79 g (show t + j < 120 by omega), row_ne, p_78_1]
    · rw [row_self, upd_self, nI_next]; rfl
    · rw [row_ne _ _ (by omega), row_self]
      by_cases e : i = j
      · subst e; rw [upd_self]
      · rw [upd_ne _ _ (by omega)]; exact I4 i (by omega)
  · have e : ¬ (0 : Int32) ≤ lI n n := by unfold lI; rw [if_neg (by omega)]; decide
    simp [WB_X6_feed_1, m_den, l0, Value.category, s_seq, s_if, s_st, s_ret, s_retz, s_retv, s_skip, s_sc, s_inc, s_call, e_c, e_li, e_lr, e_lj, e_un, e_bin, e_if, e_b, b_not, b_and, b_or, b_of, e_call, a_recv, a_snoc, a_nil, prI, prJ, prR, e_gi, e_gr, e_ai, e_ar, s_as, s_aop, s_pf, s_pfz, s_fop, l_set, l_ok, e_div, e_rem, e_len, s_tab, e]
theorem X7_feed_W (f : FN) {n t : Nat} (v : Int32) (hn : n ≤ 4) (ht : t + n ≤ 120) (et : f 103 12 = nI t) (h0 : 0 < n) : ∃ g, W_X7_feed_1 [.ref 103, .int v, .int (nI n), .int (nI (n - 1))] (memOf f) = some (.inl ([.ref 103, .int v, .int (nI n), .int (lI n n)], memOf g)) ∧ (∀ x, x ≠ 103 → x ≠ 111 → g x = f x) ∧ g 103 12 = nI (t + n) ∧ (∀ y, y ≠ 12 → g 103 y = f 103 y) ∧ (∀ y, ¬ (t ≤ y ∧ y < t + n) → g 111 y = f 111 y) ∧ ∀ j, j < n → g 111 (t + j) = fdB v n j := by
  have key := while_rel (b := WB_X7_feed_1) (s := WS_X7_feed_1) (fun j => [.ref 103, .int v, .int (nI n), .int (lI n j)]) (fun j g => (∀ x, x ≠ 103 → x ≠ 111 → g x = f x) ∧ g 103 12 = nI (t + j) ∧ (∀ y, y ≠ 12 → g 103 y = f 103 y) ∧ (∀ y, ¬ (t ≤ y ∧ y < t + n) → g 111 y = f 111 y) ∧ ∀ i, i < j → g 111 (t + i) = fdB v n i) n (by unfold FU; omega) (fun j g hj hI => ?_) (fun j g hj hI => ?_) (fun g hI => ?_) (f := f) ⟨fun _ _ _ => rfl, et, fun _ _ => rfl, fun _ _ => rfl, fun i hi => absurd hi (by omega)⟩
  · have e : lI n 0 = nI (n - 1) := by rw [lI_in h0]; rfl
    simp only [e] at key
    exact key
  · have e : (0 : Int32) ≤ nI (n - 1 - j) := nI_pos' (by omega)
    simp only [lI_in hj]
    simp [WB_X7_feed_1, m_den, l0, Value.category, s_seq, s_if, s_st, s_ret, s_retz, s_retv, s_skip, s_sc, s_inc, s_call, e_c, e_li, e_lr, e_lj, e_un, e_bin, e_if, e_b, b_not, b_and, b_or, b_of, e_call, a_recv, a_snoc, a_nil, prI, prJ, prR, e_gi, e_gr, e_ai, e_ar, s_as, s_aop, s_pf, s_pfz, s_fop, l_set, l_ok, e_div, e_rem, e_len, s_tab, e]
  · obtain ⟨I1, I2, I3, I4, I5⟩ := hI
    refine ⟨row (row g 111 (upd (g 111) (t + j) (fdB v n j))) 103 (upd (g 103) 12 (nI (t + j) + 1)), ?_, fun x c1 c2 => by rw [row_ne _ _ c1, row_ne _ _ c2]; exact I1 x c1 c2, ?_, fun y hy => by rw [row_self, upd_ne _ _ hy]; exact I3 y hy, fun y hy => by rw [row_ne _ _ (by omega), row_self, upd_ne _ _ (by omega)]; exact I4 y hy, fun i hi => ?_⟩
    · have eb : sar8 v (8 * nI (n - 1 - j)) &&& 255 = fdB v n j := rfl
      rw [fd7_eq]
      simp only [lI_in hj, ← lI_next hj]
      simp [s_seq, s_as, s_fop, s_inc, e_gr, e_gi, e_lr, e_li, e_bin, e_c, l_set, l_ok, Value.category, g_103_11, g_103_12, I2, eb, wr_111 g (show t + j < 120 by omega), row_ne, p_103_12]
    · rw [row_self, upd_self, nI_next]; rfl
    · rw [row_ne _ _ (by omega), row_self]
      by_cases e : i = j
      · subst e; rw [upd_self]
      · rw [upd_ne _ _ (by omega)]; exact I5 i (by omega)
  · have e : ¬ (0 : Int32) ≤ lI n n := by unfold lI; rw [if_neg (by omega)]; decide
    simp [WB_X7_feed_1, m_den, l0, Value.category, s_seq, s_if, s_st, s_ret, s_retz, s_retv, s_skip, s_sc, s_inc, s_call, e_c, e_li, e_lr, e_lj, e_un, e_bin, e_if, e_b, b_not, b_and, b_or, b_of, e_call, a_recv, a_snoc, a_nil, prI, prJ, prR, e_gi, e_gr, e_ai, e_ar, s_as, s_aop, s_pf, s_pfz, s_fop, l_set, l_ok, e_div, e_rem, e_len, s_tab, e]
theorem REL.tape {f g : FN} (h : REL f) (e : ∀ x, x ≠ 77 → x ≠ 78 → x ≠ 79 → x ≠ 103 → x ≠ 111 → g x = f x) (e4 : g 103 4 = f 103 4) (t : ∃ t, t ≤ 120 ∧ g 78 1 = nI t ∧ g 103 12 = nI t) (b : ∀ i, i < 120 → g 79 i = g 111 i ∧ ∃ v, v < 256 ∧ g 79 i = nI v) : REL g := by
  obtain ⟨⟨m, hT, hV⟩, ⟨k1, k2⟩, k3, s1, s2, s3, s4⟩ := h
  have e0 := e 0 (by omega) (by omega) (by omega) (by omega) (by omega)
  refine ⟨⟨m, ?_, ?_⟩, ⟨by rw [e0, e4]; exact k1, by rw [e0]; exact k2⟩, fun hk => ?_, ?_, t, b, fun s hs => ?_⟩
  · rw [e 104 (by omega) (by omega) (by omega) (by omega) (by omega)]; exact hT.congr (fun j h1 h2 => e j (by omega) (by omega) (by omega) (by omega) (by omega))
  · rw [e 104 (by omega) (by omega) (by omega) (by omega) (by omega)]; exact hV
  · rw [e0] at hk
    obtain ⟨m', c1, c2⟩ := k3 hk
    refine ⟨m', ?_, ?_⟩
    · rw [e 105 (by omega) (by omega) (by omega) (by omega) (by omega)]; exact c1.congr (fun j h1 h2 => e j (by omega) (by omega) (by omega) (by omega) (by omega))
    · rw [e 105 (by omega) (by omega) (by omega) (by omega) (by omega)]; exact c2
  · rw [e 81 (by omega) (by omega) (by omega) (by omega) (by omega), e 107 (by omega) (by omega) (by omega) (by omega) (by omega)]; exact s1
  · rw [e 112 (by omega) (by omega) (by omega) (by omega) (by omega), e 113 (by omega) (by omega) (by omega) (by omega) (by omega), e 114 (by omega) (by omega) (by omega) (by omega) (by omega), e (95 + 2 * s) (by omega) (by omega) (by omega) (by omega) (by omega), e (96 + 2 * s) (by omega) (by omega) (by omega) (by omega) (by omega)]; exact s4 s hs
theorem X6_feed_no (f : FN) {v n : Int32} (h : ¬ (1 ≤ n ∧ n ≤ 4)) : D_X6_feed [.ref 0, .int v, .int n] (memOf f) = some (.int (-1000001), memOf (row f 81 (upd (f 81) 0 (f 81 0 + 1)))) := by
  simp [D_X6_feed, S_X6_feed, m_den, l0, Value.category, s_seq, s_if, s_st, s_ret, s_retz, s_retv, s_skip, s_sc, s_inc, s_call, e_c, e_li, e_lr, e_lj, e_un, e_bin, e_if, e_b, b_not, b_and, b_or, b_of, e_call, a_recv, a_snoc, a_nil, prI, prJ, prR, e_gi, e_gr, e_ai, e_ar, s_as, s_aop, s_pf, s_pfz, s_fop, l_set, l_ok, e_div, e_rem, e_len, s_tab, X6_isIn, h, rc_0, X6_fin_0]
theorem X7_feed_no (f : FN) {v n : Int32} (h : ¬ (1 ≤ n ∧ n ≤ 4)) : D_X7_feed [.ref 103, .int v, .int n] (memOf f) = some (.int (-1000001), memOf (row f 107 (upd (f 107) 0 (f 107 0 + 1)))) := by
  simp [D_X7_feed, S_X7_feed, m_den, l0, Value.category, s_seq, s_if, s_st, s_ret, s_retz, s_retv, s_skip, s_sc, s_inc, s_call, e_c, e_li, e_lr, e_lj, e_un, e_bin, e_if, e_b, b_not, b_and, b_or, b_of, e_call, a_recv, a_snoc, a_nil, prI, prJ, prR, e_gi, e_gr, e_ai, e_ar, s_as, s_aop, s_pf, s_pfz, s_fop, l_set, l_ok, e_div, e_rem, e_len, s_tab, X7_in, j_le_4, j_ge_1, h, rc_103, X7_fin_0]
theorem agr_feed {f : FN} (h : REL f) (v x : Int32) : AGR D_X6_feed D_X7_feed [.int v, .int x] f := by
  by_cases hc : 1 ≤ x ∧ x ≤ 4
  · obtain ⟨a1, a2⟩ := hc
    obtain ⟨n, hn, rfl⟩ := in_ex (n := 4) ⟨Int32.le_trans (by decide) a1, a2⟩ (by omega)
    have n1 : 1 ≤ n := (nI_le_iff (a := 1) (b := n) (by omega) (by omega)).mp a1
    obtain ⟨-, -, -, s1, ⟨t, ht, et, er⟩, s3, s4⟩ := id h
    have q : (120 < nI t + nI n) = (120 < t + n) := by rw [nI_a]; exact propext (nI_lt_iff (a := 120) (b := t + n) (by omega) (by omega))
    have em : nI n - 1 = nI (n - 1) := nI_s (a := n) (b := 1) (by omega)
    by_cases hF : 120 < t + n
    · refine agr_find (j := 1) (v := -1000002) h ?_ (fun g hg => ?_)
      · simp [D_X6_feed, S_X6_feed, m_den, l0, Value.category, s_seq, s_if, s_st, s_ret, s_retz, s_retv, s_skip, s_sc, s_inc, s_call, e_c, e_li, e_lr, e_lj, e_un, e_bin, e_if, e_b, b_not, b_and, b_or, b_of, e_call, a_recv, a_snoc, a_nil, prI, prJ, prR, e_gi, e_gr, e_ai, e_ar, s_as, s_aop, s_pf, s_pfz, s_fop, l_set, l_ok, e_div, e_rem, e_len, s_tab, X6_isIn, a1, a2, g_0_3, g_77_0, g_78_1, et, q, hF, rc_0, X6_fin_1]
      · have er' : g 103 12 = nI t := by rw [hg.2.1]; exact er
        simp [D_X7_feed, S_X7_feed, m_den, l0, Value.category, s_seq, s_if, s_st, s_ret, s_retz, s_retv, s_skip, s_sc, s_inc, s_call, e_c, e_li, e_lr, e_lj, e_un, e_bin, e_if, e_b, b_not, b_and, b_or, b_of, e_call, a_recv, a_snoc, a_nil, prI, prJ, prR, e_gi, e_gr, e_ai, e_ar, s_as, s_aop, s_pf, s_pfz, s_fop, l_set, l_ok, e_div, e_rem, e_len, s_tab, X7_in, j_le_4, j_ge_1, a1, a2, g_103_12, er', q, hF, rc_103, X7_fin_1]
    · obtain ⟨g1, A1, A2, A3, A4, A5⟩ := X6_feed_W f (n := n) (t := t) v (by omega) (by omega) et (by omega)
      obtain ⟨g2, B1, B2, B3, B4, B5, B6⟩ := X7_feed_W g1 (n := n) (t := t) v (by omega) (by omega) (by rw [A2 103 (by omega) (by omega)]; exact er) (by omega)
      refine ⟨nI (t + n), g1, g2, ?_, ?_, ?_⟩
      · simp [D_X6_feed, S_X6_feed, m_den, l0, Value.category, s_seq, s_if, s_st, s_ret, s_retz, s_retv, s_skip, s_sc, s_inc, s_call, e_c, e_li, e_lr, e_lj, e_un, e_bin, e_if, e_b, b_not, b_and, b_or, b_of, e_call, a_recv, a_snoc, a_nil, prI, prJ, prR, e_gi, e_gr, e_ai, e_ar, s_as, s_aop, s_pf, s_pfz, s_fop, l_set, l_ok, e_div, e_rem, e_len, s_tab, X6_isIn, a1, a2, g_0_3, g_77_0, g_78_1, et, q, hF, em, A1, A3]
      · have er' : g1 103 12 = nI t := by rw [A2 103 (by omega) (by omega)]; exact er
        simp [D_X7_feed, S_X7_feed, m_den, l0, Value.category, s_seq, s_if, s_st, s_ret, s_retz, s_retv, s_skip, s_sc, s_inc, s_call, e_c, e_li, e_lr, e_lj, e_un, e_bin, e_if, e_b, b_not, b_and, b_or, b_of, e_call, a_recv, a_snoc, a_nil, prI, prJ, prR, e_gi, e_gr, e_ai, e_ar, s_as, s_aop, s_pf, s_pfz, s_fop, l_set, l_ok, e_div, e_rem, e_len, s_tab, X7_in, j_le_4, j_ge_1, a1, a2, g_103_12, er', q, hF, em, B1, B3]
      · refine h.tape (fun x c1 c2 c3 c4 c5 => by rw [B2 x c4 c5, A2 x c2 c3]) ?_ ⟨t + n, by omega, ?_, B3⟩ (fun i hi => ?_)
        · rw [B4 4 (by omega), A2 103 (by omega) (by omega)]
        · rw [B2 78 (by omega) (by omega)]; exact A3
        · rw [B2 79 (by omega) (by omega)]
          by_cases c : t ≤ i ∧ i < t + n
          · obtain ⟨j, rfl⟩ : ∃ j, i = t + j := ⟨i - t, by omega⟩
            rw [A5 j (by omega), B6 j (by omega)]
            exact ⟨rfl, by_ex _⟩
          · rw [A4 i c, B5 i c, A2 111 (by omega) (by omega)]
            exact s3 i hi
  · exact agr_find h (X6_feed_no f hc) (fun g _ => X7_feed_no g hc)
