/-! worst agrees; washing -/
theorem X6_worst_no0 (f : FN) {o n : Int32} (h : ¬ (0 ≤ o ∧ o ≤ 5 ∧ 1 ≤ n ∧ n ≤ 24)) : D_X6_worst [.ref 0, .int o, .int n] (memOf f) = some (.int (-1000001), memOf (row f 81 (upd (f 81) 0 (f 81 0 + 1)))) := by
  by_cases h1 : 0 ≤ o
  · by_cases h2 : o ≤ 5
    · by_cases h3 : 1 ≤ n
      · have h4 : ¬ (n ≤ 24) := fun q => h ⟨h1, h2, h3, q⟩
        simp [D_X6_worst, S_X6_worst, m_den, l0, Value.category, s_seq, s_if, s_st, s_ret, s_retz, s_retv, s_skip, s_sc, s_inc, s_call, e_c, e_li, e_lr, e_lj, e_un, e_bin, e_if, e_b, b_not, b_and, b_or, b_of, e_call, a_recv, a_snoc, a_nil, prI, prJ, prR, e_gi, e_gr, e_ai, e_ar, s_as, s_aop, s_pf, s_pfz, s_fop, l_set, l_ok, e_div, e_rem, e_len, s_tab, X6_isOwner, X6_isIn, rc_0, X6_fin_0, h1, h2, h3, h4]
      · simp [D_X6_worst, S_X6_worst, m_den, l0, Value.category, s_seq, s_if, s_st, s_ret, s_retz, s_retv, s_skip, s_sc, s_inc, s_call, e_c, e_li, e_lr, e_lj, e_un, e_bin, e_if, e_b, b_not, b_and, b_or, b_of, e_call, a_recv, a_snoc, a_nil, prI, prJ, prR, e_gi, e_gr, e_ai, e_ar, s_as, s_aop, s_pf, s_pfz, s_fop, l_set, l_ok, e_div, e_rem, e_len, s_tab, X6_isOwner, X6_isIn, rc_0, X6_fin_0, h1, h2, h3]
    · simp [D_X6_worst, S_X6_worst, m_den, l0, Value.category, s_seq, s_if, s_st, s_ret, s_retz, s_retv, s_skip, s_sc, s_inc, s_call, e_c, e_li, e_lr, e_lj, e_un, e_bin, e_if, e_b, b_not, b_and, b_or, b_of, e_call, a_recv, a_snoc, a_nil, prI, prJ, prR, e_gi, e_gr, e_ai, e_ar, s_as, s_aop, s_pf, s_pfz, s_fop, l_set, l_ok, e_div, e_rem, e_len, s_tab, X6_isOwner, X6_isIn, rc_0, X6_fin_0, h1, h2]
  · simp [D_X6_worst, S_X6_worst, m_den, l0, Value.category, s_seq, s_if, s_st, s_ret, s_retz, s_retv, s_skip, s_sc, s_inc, s_call, e_c, e_li, e_lr, e_lj, e_un, e_bin, e_if, e_b, b_not, b_and, b_or, b_of, e_call, a_recv, a_snoc, a_nil, prI, prJ, prR, e_gi, e_gr, e_ai, e_ar, s_as, s_aop, s_pf, s_pfz, s_fop, l_set, l_ok, e_div, e_rem, e_len, s_tab, X6_isOwner, X6_isIn, rc_0, X6_fin_0, h1]
theorem X7_worst_no0 (f : FN) {o n : Int32} (h : ¬ (0 ≤ o ∧ o ≤ 5 ∧ 1 ≤ n ∧ n ≤ 24)) : D_X7_worst [.ref 103, .int o, .int n] (memOf f) = some (.int (-1000001), memOf (row f 107 (upd (f 107) 0 (f 107 0 + 1)))) := by
  by_cases h1 : 0 ≤ o
  · by_cases h2 : o ≤ 5
    · by_cases h3 : 1 ≤ n
      · have h4 : ¬ (n ≤ 24) := fun q => h ⟨h1, h2, h3, q⟩
        simp [D_X7_worst, S_X7_worst, m_den, l0, Value.category, s_seq, s_if, s_st, s_ret, s_retz, s_retv, s_skip, s_sc, s_inc, s_call, e_c, e_li, e_lr, e_lj, e_un, e_bin, e_if, e_b, b_not, b_and, b_or, b_of, e_call, a_recv, a_snoc, a_nil, prI, prJ, prR, e_gi, e_gr, e_ai, e_ar, s_as, s_aop, s_pf, s_pfz, s_fop, l_set, l_ok, e_div, e_rem, e_len, s_tab, X7_isOwner, X7_isDay, rc_103, X7_fin_0, h1, h2, h3, h4]
      · simp [D_X7_worst, S_X7_worst, m_den, l0, Value.category, s_seq, s_if, s_st, s_ret, s_retz, s_retv, s_skip, s_sc, s_inc, s_call, e_c, e_li, e_lr, e_lj, e_un, e_bin, e_if, e_b, b_not, b_and, b_or, b_of, e_call, a_recv, a_snoc, a_nil, prI, prJ, prR, e_gi, e_gr, e_ai, e_ar, s_as, s_aop, s_pf, s_pfz, s_fop, l_set, l_ok, e_div, e_rem, e_len, s_tab, X7_isOwner, X7_isDay, rc_103, X7_fin_0, h1, h2, h3]
    · simp [D_X7_worst, S_X7_worst, m_den, l0, Value.category, s_seq, s_if, s_st, s_ret, s_retz, s_retv, s_skip, s_sc, s_inc, s_call, e_c, e_li, e_lr, e_lj, e_un, e_bin, e_if, e_b, b_not, b_and, b_or, b_of, e_call, a_recv, a_snoc, a_nil, prI, prJ, prR, e_gi, e_gr, e_ai, e_ar, s_as, s_aop, s_pf, s_pfz, s_fop, l_set, l_ok, e_div, e_rem, e_len, s_tab, X7_isOwner, X7_isDay, rc_103, X7_fin_0, h1, h2]
  · simp [D_X7_worst, S_X7_worst, m_den, l0, Value.category, s_seq, s_if, s_st, s_ret, s_retz, s_retv, s_skip, s_sc, s_inc, s_call, e_c, e_li, e_lr, e_lj, e_un, e_bin, e_if, e_b, b_not, b_and, b_or, b_of, e_call, a_recv, a_snoc, a_nil, prI, prJ, prR, e_gi, e_gr, e_ai, e_ar, s_as, s_aop, s_pf, s_pfz, s_fop, l_set, l_ok, e_div, e_rem, e_len, s_tab, X7_isOwner, X7_isDay, rc_103, X7_fin_0, h1]
theorem agr_worst {f : FN} (h : REL f) (y u : Int32) : AGR D_X6_worst D_X7_worst [.int y, .int u] f := by
  obtain ⟨⟨m, hT, hV⟩, -⟩ := id h
  obtain ⟨TRS, ro, wd, Q, bo, hh, w⟩ := TW.ex hT hV
  obtain ⟨⟨b1, b2, b3, b4⟩, hS, sp, ro', wd', bk', tk, bn⟩ := id w
  have em' := hS.1.1
  have m8 := hS.1.2
  by_cases hc : 0 ≤ y ∧ y ≤ 5 ∧ 1 ≤ u ∧ u ≤ 24
  · obtain ⟨o, ho, rfl⟩ := in_ex (n := 5) ⟨hc.1, hc.2.1⟩ (by omega)
    obtain ⟨a3, a4, a5, a6⟩ := hc
    obtain ⟨n, hn, rfl⟩ := in_ex (n := 24) ⟨Int32.le_trans (by decide) a5, a6⟩ (by omega)
    have hq := hor (h := hh) (n := n) b3 (by omega)
    by_cases hN : hh + n ≤ 9999
    · obtain ⟨X, eX⟩ : ∃ X : Nat → Int32, X = fun k => nI (restD TRS wd ro hh Q m n k o + gD (updN (TRS k) 6 0) wd ro hh (Q k) n o) := ⟨_, rfl⟩
      obtain ⟨B, eB⟩ : ∃ B : Nat → Nat → Bool, B = fun v b => decide (X v < X b) := ⟨_, rfl⟩
      cases m with
      | zero =>
        obtain ⟨g1, hg1⟩ : ∃ g1, g1 = row f 81 (upd (f 81) 3 (f 81 3 + 1)) := ⟨_, rfl⟩
        have fin := X6_fin_3 f
        rw [← hg1] at fin
        have e104 : g1 104 = f 104 := by rw [hg1, row_ne _ _ (by omega)]
        obtain ⟨p1, U1, U2, U3⟩ := X7_puts g1
        have P4 : p1 104 = f 104 := by rw [U2 104 (by omega), e104]
        have wp := w.congr (g := p1) (fun j hj => by rw [U2 j (by omega), hg1, row_ne _ _ (by omega)]) P4
        obtain ⟨y2, g2, C1, C2, C3⟩ := X7_worst_W p1 wp (fun y hy => by rw [U3 y hy, e104, P4]) (o := o) (n := n) (by omega) (by omega) hN (X := X) (fun k hk => absurd hk (by omega)) eB
        have q : ((-1 : Int32) < 0) = True := eq_true (by decide)
        have z0 : (nI 0 = 0) = True := eq_true rfl
        have g5 : g1 104 0 = nI hh := by rw [e104]; exact b2
        refine ⟨-1000004, g1, row g2 107 (upd (g2 107) 3 (g2 107 3 + 1)), ?_, ?_, ?_⟩
        · simp [D_X6_worst, S_X6_worst, m_den, l0, Value.category, s_seq, s_if, s_st, s_ret, s_retz, s_retv, s_skip, s_sc, s_inc, s_call, e_c, e_li, e_lr, e_lj, e_un, e_bin, e_if, e_b, b_not, b_and, b_or, b_of, e_call, a_recv, a_snoc, a_nil, prI, prJ, prR, e_gi, e_gr, e_ai, e_ar, s_as, s_aop, s_pf, s_pfz, s_fop, l_set, l_ok, e_div, e_rem, e_len, s_tab, X6_isOwner, X6_isIn, a3, a4, a5, a6, rc_0, X6_hasHours, b1, hq, hN, g_0_0, g_1_2, b4, z0, fin]
        · simp [D_X7_worst, S_X7_worst, m_den, l0, Value.category, s_seq, s_if, s_st, s_ret, s_retz, s_retv, s_skip, s_sc, s_inc, s_call, e_c, e_li, e_lr, e_lj, e_un, e_bin, e_if, e_b, b_not, b_and, b_or, b_of, e_call, a_recv, a_snoc, a_nil, prI, prJ, prR, e_gi, e_gr, e_ai, e_ar, s_as, s_aop, s_pf, s_pfz, s_fop, l_set, l_ok, e_div, e_rem, e_len, s_tab, X7_isOwner, X7_isDay, g5, a3, a4, a5, a6, rc_103, X7_isTooFar, hq, hN, U1, C1, bI, q, X7_fin_3]
        · refine (h.find 3).trial (fun x c1 c2 c3 c4 c5 c6 c7 => ?_) (fun y hy => ?_)
          · unfold fnd
            by_cases c7 : x = 107
            · subst c7; rw [row_self, row_self, C2 107 (by omega) (by omega) (by omega), U2 107 (by omega), hg1, row_ne _ _ (by omega)]
            · rw [row_ne _ _ c7, row_ne _ _ c7, C2 x c2 c4 c5, U2 x c3, hg1]
          · unfold fnd
            rw [row_ne _ _ (by omega), row_ne _ _ (by omega), row_ne _ _ (by omega), C3 y (by omega), U2 103 (by omega), hg1, row_ne _ _ (by omega)]
      | succ m =>
        obtain ⟨g0, A1, A2, A3⟩ := X6_playDirt f w (o := o) (n := n) (by omega) hN
        have em0 : g0 1 2 = nI (m + 1) := by rw [A2 1 (by omega)]; exact b4
        obtain ⟨y1, D1⟩ := X6_worst_W g0 m8 em0 (o := nI o) (n := nI n) (X := X) (B := B) (fun c hc => by
          rw [dw_worst m8 hc A3, eX]; rfl) eB
        obtain ⟨p1, U1, U2, U3⟩ := X7_puts g0
        have P4 : p1 104 = f 104 := by rw [U2 104 (by omega), A2 104 (by omega)]
        have wp := w.congr (g := p1) (fun j hj => by rw [U2 j (by omega), A2 j (by omega)]) P4
        obtain ⟨y2, g2, C1, C2, C3⟩ := X7_worst_W p1 wp (fun y hy => by rw [U3 y hy, A2 104 (by omega), P4]) (o := o) (n := n) (by omega) (by omega) hN (X := X) (fun k hk => by rw [eX]) eB
        have q : (nI (am B m) < 0) = False := eq_false (Int32.not_lt.mpr (nI_pos' (by have := am_le B m; omega)))
        have z0 : (nI (m + 1) = 0) = False := eq_false (fun e => absurd ((nI_inj (a := m + 1) (b := 0) (by omega) (by omega)).mp e) (by omega))
        have g5 : g0 104 0 = nI hh := by rw [A2 104 (by omega)]; exact b2
        refine ⟨nI (am B m), g0, g2, ?_, ?_, ?_⟩
        · simp [D_X6_worst, S_X6_worst, m_den, l0, Value.category, s_seq, s_if, s_st, s_ret, s_retz, s_retv, s_skip, s_sc, s_inc, s_call, e_c, e_li, e_lr, e_lj, e_un, e_bin, e_if, e_b, b_not, b_and, b_or, b_of, e_call, a_recv, a_snoc, a_nil, prI, prJ, prR, e_gi, e_gr, e_ai, e_ar, s_as, s_aop, s_pf, s_pfz, s_fop, l_set, l_ok, e_div, e_rem, e_len, s_tab, X6_isOwner, X6_isIn, a3, a4, a5, a6, rc_0, X6_hasHours, b1, hq, hN, g_0_0, g_1_2, b4, em0, z0, A1, D1, bI]
        · simp [D_X7_worst, S_X7_worst, m_den, l0, Value.category, s_seq, s_if, s_st, s_ret, s_retz, s_retv, s_skip, s_sc, s_inc, s_call, e_c, e_li, e_lr, e_lj, e_un, e_bin, e_if, e_b, b_not, b_and, b_or, b_of, e_call, a_recv, a_snoc, a_nil, prI, prJ, prR, e_gi, e_gr, e_ai, e_ar, s_as, s_aop, s_pf, s_pfz, s_fop, l_set, l_ok, e_div, e_rem, e_len, s_tab, X7_isOwner, X7_isDay, g5, a3, a4, a5, a6, rc_103, X7_isTooFar, hq, hN, U1, C1, bI, q]
        · refine h.trial (fun x c1 c2 c3 c4 c5 c6 c7 => ?_) (fun y hy => ?_)
          · rw [C2 x c2 c4 c5, U2 x c3, A2 x (by omega)]
          · rw [C3 y (by omega), U2 103 (by omega), A2 103 (by omega)]
    · refine agr_find (j := 4) (v := -1000005) h ?_ (fun g hg => ?_)
      · simp [D_X6_worst, S_X6_worst, m_den, l0, Value.category, s_seq, s_if, s_st, s_ret, s_retz, s_retv, s_skip, s_sc, s_inc, s_call, e_c, e_li, e_lr, e_lj, e_un, e_bin, e_if, e_b, b_not, b_and, b_or, b_of, e_call, a_recv, a_snoc, a_nil, prI, prJ, prR, e_gi, e_gr, e_ai, e_ar, s_as, s_aop, s_pf, s_pfz, s_fop, l_set, l_ok, e_div, e_rem, e_len, s_tab, X6_isOwner, X6_isIn, a3, a4, a5, a6, rc_0, X6_hasHours, b1, hq, hN, X6_fin_4]
      · have b2' : g 104 0 = nI hh := by rw [hg.1]; exact b2
        simp [D_X7_worst, S_X7_worst, m_den, l0, Value.category, s_seq, s_if, s_st, s_ret, s_retz, s_retv, s_skip, s_sc, s_inc, s_call, e_c, e_li, e_lr, e_lj, e_un, e_bin, e_if, e_b, b_not, b_and, b_or, b_of, e_call, a_recv, a_snoc, a_nil, prI, prJ, prR, e_gi, e_gr, e_ai, e_ar, s_as, s_aop, s_pf, s_pfz, s_fop, l_set, l_ok, e_div, e_rem, e_len, s_tab, X7_isOwner, X7_isDay, a3, a4, a5, a6, rc_103, X7_isTooFar, b2', hq, hN, X7_fin_4]
  · exact agr_find h (X6_worst_no0 f hc) (fun g _ => X7_worst_no0 g hc)
/-! washing -/
def hasB (s k : Nat) : Bool := decide (bitI (nI s) (nI k) = 1)
theorem bit01_fin : ∀ s : Fin 256, ∀ k : Fin 8, bitI (nI s.1) (nI k.1) = if hasB s.1 k.1 then 1 else 0 := by decide +kernel
theorem bit01 {s k : Nat} (hs : s < 256) (hk : k < 8) : bitI (nI s) (nI k) = if hasB s k then 1 else 0 := bit01_fin ⟨s, hs⟩ ⟨k, hk⟩
theorem pow_fin : ∀ m : Fin 9, (1 : Int32) <<< (nI m.1 &&& 31) = nI (2 ^ m.1) ∧ 2 ^ m.1 ≤ 256 := by decide +kernel
def fiW (TRS : Nat → Nat → Nat) (m s : Nat) : Nat := csI m (fun k => if hasB s k then TRS k 4 else 0)
def dwW (TRS : Nat → Nat → Nat) (wd : Nat → Nat) (ro : Nat → Option Nat) (h : Nat) (Q : Nat → SMK) (m n o s : Nat) : Nat := csI m (fun k => if hasB s k then gD (TRS k) wd ro h (Q k) n o else gD (updN (TRS k) 6 0) wd ro h (Q k) n o)
/-- best set and its fire behind the sets below s -/
def wsh (F D : Nat → Int32) : Nat → Int32 × Int32
  | 0 => (-1, -1)
  | s + 1 => if (wsh F D s).2 < F s ∧ D s = 0 then (nI s, F s) else wsh F D s
theorem X6_fireOf (f : FN) {m s : Nat} {TRS : Nat → Nat → Nat} {Q : Nat → SMK} (sp : SP f m TRS Q) (hm : m ≤ 8) (em : f 1 2 = nI m) (hs : s < 256) : D_X6_fireOf [.ref 0, .int (nI s)] (memOf f) = some (.int (nI (fiW TRS m s)), memOf f) := by
  have W : W_X6_fireOf_1 [.ref 0, .int (nI s), .int 0, .int 0] (memOf f) = some (.inl ([.ref 0, .int (nI s), .int (nI (fiW TRS m s)), .int (nI m)], memOf f)) := by
    have key := while_count (b := WB_X6_fireOf_1) (s := WS_X6_fireOf_1) (fun k => ([.ref 0, .int (nI s), .int (nI (fiW TRS k s)), .int (nI k)], memOf f)) m (by unfold FU; omega) (fun k hk => ?_) (fun k hk => ?_) ?_
    · exact key
    · have e : nI k < nI m := (nI_lt_iff (by omega) (by omega)).mpr hk
      simp [WB_X6_fireOf_1, m_den, l0, Value.category, s_seq, s_if, s_st, s_ret, s_retz, s_retv, s_skip, s_sc, s_inc, s_call, e_c, e_li, e_lr, e_lj, e_un, e_bin, e_if, e_b, b_not, b_and, b_or, b_of, e_call, a_recv, a_snoc, a_nil, prI, prJ, prR, e_gi, e_gr, e_ai, e_ar, s_as, s_aop, s_pf, s_pfz, s_fop, l_set, l_ok, e_div, e_rem, e_len, s_tab, g_0_0, g_1_2, em, e]
    · have b : nI s >>> (nI k &&& 31) &&& 1 = if hasB s k then 1 else 0 := bit01 hs (by omega)
      have hC := isCh_town (b := 1) (c := k) (Or.inl rfl) (by omega)
      have t4 := (sp k hk).2.2 4 (by omega)
      have e : fiW TRS (k + 1) s = fiW TRS k s + if hasB s k then TRS k 4 else 0 := rfl
      cases c : hasB s k with
      | false =>
        rw [c] at b e
        have b' : nI s >>> (nI k &&& 31) &&& 1 = 0 := b
        have e' : fiW TRS (k + 1) s = fiW TRS k s := e
        simp [WS_X6_fireOf_1, m_den, l0, Value.category, s_seq, s_if, s_st, s_ret, s_retz, s_retv, s_skip, s_sc, s_inc, s_call, e_c, e_li, e_lr, e_lj, e_un, e_bin, e_if, e_b, b_not, b_and, b_or, b_of, e_call, a_recv, a_snoc, a_nil, prI, prJ, prR, e_gi, e_gr, e_ai, e_ar, s_as, s_aop, s_pf, s_pfz, s_fop, l_set, l_ok, e_div, e_rem, e_len, s_tab, b', g_0_0, g_1_7, rr_6 f (show k < 8 by omega), gch0 f hC, rdt4 f hC, nI_next, e']
      | true =>
        rw [c] at b e
        have b' : nI s >>> (nI k &&& 31) &&& 1 = 1 := b
        have e' : fiW TRS (k + 1) s = fiW TRS k s + TRS k 4 := e
        simp [WS_X6_fireOf_1, m_den, l0, Value.category, s_seq, s_if, s_st, s_ret, s_retz, s_retv, s_skip, s_sc, s_inc, s_call, e_c, e_li, e_lr, e_lj, e_un, e_bin, e_if, e_b, b_not, b_and, b_or, b_of, e_call, a_recv, a_snoc, a_nil, prI, prJ, prR, e_gi, e_gr, e_ai, e_ar, s_as, s_aop, s_pf, s_pfz, s_fop, l_set, l_ok, e_div, e_rem, e_len, s_tab, b', g_0_0, g_1_7, rr_6 f (show k < 8 by omega), gch0 f hC, rdt4 f hC, t4, nI_a, nI_next, e']
    · have e : ¬ nI m < nI m := Int32.lt_irrefl
      simp [WB_X6_fireOf_1, m_den, l0, Value.category, s_seq, s_if, s_st, s_ret, s_retz, s_retv, s_skip, s_sc, s_inc, s_call, e_c, e_li, e_lr, e_lj, e_un, e_bin, e_if, e_b, b_not, b_and, b_or, b_of, e_call, a_recv, a_snoc, a_nil, prI, prJ, prR, e_gi, e_gr, e_ai, e_ar, s_as, s_aop, s_pf, s_pfz, s_fop, l_set, l_ok, e_div, e_rem, e_len, s_tab, g_0_0, g_1_2, em, e]
  simp [D_X6_fireOf, S_X6_fireOf, m_den, l0, Value.category, s_seq, s_if, s_st, s_ret, s_retz, s_retv, s_skip, s_sc, s_inc, s_call, e_c, e_li, e_lr, e_lj, e_un, e_bin, e_if, e_b, b_not, b_and, b_or, b_of, e_call, a_recv, a_snoc, a_nil, prI, prJ, prR, e_gi, e_gr, e_ai, e_ar, s_as, s_aop, s_pf, s_pfz, s_fop, l_set, l_ok, e_div, e_rem, e_len, s_tab, W]
theorem X7_has {s k : Nat} (hs : s < 256) (hk : k < 8) (M : GM) : D_X7_has [.int (nI s), .int (nI k)] M = some (.int (b2i (hasB s k)), M) := by
  have b : nI s >>> (nI k &&& 31) &&& 1 = if hasB s k then 1 else 0 := bit01 hs hk
  cases c : hasB s k with
  | false =>
    rw [c] at b
    have b' : nI s >>> (nI k &&& 31) &&& 1 = 0 := b
    simp [D_X7_has, S_X7_has, m_den, l0, Value.category, s_seq, s_if, s_st, s_ret, s_retz, s_retv, s_skip, s_sc, s_inc, s_call, e_c, e_li, e_lr, e_lj, e_un, e_bin, e_if, e_b, b_not, b_and, b_or, b_of, e_call, a_recv, a_snoc, a_nil, prI, prJ, prR, e_gi, e_gr, e_ai, e_ar, s_as, s_aop, s_pf, s_pfz, s_fop, l_set, l_ok, e_div, e_rem, e_len, s_tab, b', b2i]
  | true =>
    rw [c] at b
    have b' : nI s >>> (nI k &&& 31) &&& 1 = 1 := b
    simp [D_X7_has, S_X7_has, m_den, l0, Value.category, s_seq, s_if, s_st, s_ret, s_retz, s_retv, s_skip, s_sc, s_inc, s_call, e_c, e_li, e_lr, e_lj, e_un, e_bin, e_if, e_b, b_not, b_and, b_or, b_of, e_call, a_recv, a_snoc, a_nil, prI, prJ, prR, e_gi, e_gr, e_ai, e_ar, s_as, s_aop, s_pf, s_pfz, s_fop, l_set, l_ok, e_div, e_rem, e_len, s_tab, b', b2i]
theorem X7_washing_W1 (f : FN) {m s : Nat} {TRS : Nat → Nat → Nat} (hT : ∀ k, k < m → HRt (f 104) k (TRS k)) (hm : m ≤ 8) (em : f 104 1 = nI m) (hs : s < 256) (o n b t : Int32) : W_X7_washing_1 [.ref 103, .int o, .int n, .int b, .int t, .int (nI s), .int 0, .int 0] (memOf f) = some (.inl ([.ref 103, .int o, .int n, .int b, .int t, .int (nI s), .int (nI (fiW TRS m s)), .int (nI m)], memOf f)) := by
  have key := while_count (b := WB_X7_washing_1) (s := WS_X7_washing_1) (fun k => ([.ref 103, .int o, .int n, .int b, .int t, .int (nI s), .int (nI (fiW TRS k s)), .int (nI k)], memOf f)) m (by unfold FU; omega) (fun k hk => ?_) (fun k hk => ?_) ?_
  · exact key
  · have e : nI k < nI m := (nI_lt_iff (by omega) (by omega)).mpr hk
    simp [WB_X7_washing_1, m_den, l0, Value.category, s_seq, s_if, s_st, s_ret, s_retz, s_retv, s_skip, s_sc, s_inc, s_call, e_c, e_li, e_lr, e_lj, e_un, e_bin, e_if, e_b, b_not, b_and, b_or, b_of, e_call, a_recv, a_snoc, a_nil, prI, prJ, prR, e_gi, e_gr, e_ai, e_ar, s_as, s_aop, s_pf, s_pfz, s_fop, l_set, l_ok, e_div, e_rem, e_len, s_tab, g_103_0, rd_104_1, em, e]
  · have hs' := X7_has hs (show k < 8 by omega) (memOf f)
    have it := X7_its4 f (k := k) (by omega)
    rw [hT k hk 4 (by omega)] at it
    have e : fiW TRS (k + 1) s = fiW TRS k s + if hasB s k then TRS k 4 else 0 := rfl
    cases c : hasB s k with
    | false =>
      rw [c] at hs' e
      have e' : fiW TRS (k + 1) s = fiW TRS k s := e
      simp [WS_X7_washing_1, m_den, l0, Value.category, s_seq, s_if, s_st, s_ret, s_retz, s_retv, s_skip, s_sc, s_inc, s_call, e_c, e_li, e_lr, e_lj, e_un, e_bin, e_if, e_b, b_not, b_and, b_or, b_of, e_call, a_recv, a_snoc, a_nil, prI, prJ, prR, e_gi, e_gr, e_ai, e_ar, s_as, s_aop, s_pf, s_pfz, s_fop, l_set, l_ok, e_div, e_rem, e_len, s_tab, hs', b2i, nI_next, e']
    | true =>
      rw [c] at hs' e
      have e' : fiW TRS (k + 1) s = fiW TRS k s + TRS k 4 := e
      simp [WS_X7_washing_1, m_den, l0, Value.category, s_seq, s_if, s_st, s_ret, s_retz, s_retv, s_skip, s_sc, s_inc, s_call, e_c, e_li, e_lr, e_lj, e_un, e_bin, e_if, e_b, b_not, b_and, b_or, b_of, e_call, a_recv, a_snoc, a_nil, prI, prJ, prR, e_gi, e_gr, e_ai, e_ar, s_as, s_aop, s_pf, s_pfz, s_fop, l_set, l_ok, e_div, e_rem, e_len, s_tab, hs', b2i, rc_103, it, nI_a, nI_next, e']
  · have e : ¬ nI m < nI m := Int32.lt_irrefl
    simp [WB_X7_washing_1, m_den, l0, Value.category, s_seq, s_if, s_st, s_ret, s_retz, s_retv, s_skip, s_sc, s_inc, s_call, e_c, e_li, e_lr, e_lj, e_un, e_bin, e_if, e_b, b_not, b_and, b_or, b_of, e_call, a_recv, a_snoc, a_nil, prI, prJ, prR, e_gi, e_gr, e_ai, e_ar, s_as, s_aop, s_pf, s_pfz, s_fop, l_set, l_ok, e_div, e_rem, e_len, s_tab, g_103_0, rd_104_1, em, e]
def trW (TRS : Nat → Nat → Nat) (s k : Nat) : Nat → Nat := updN (TRS k) 6 (if hasB s k then TRS k 6 else 0)
theorem X7_washing_W2 (f : FN) {m s : Nat} {TRS : Nat → Nat → Nat} {ro : Nat → Option Nat} {wd : Nat → Nat} (hS : HSt (f 104) m TRS ro wd) (hs : s < 256) (o n b t u : Int32) : ∃ g, W_X7_washing_2 [.ref 103, .int o, .int n, .int b, .int t, .int (nI s), .int u, .int 0] (memOf f) = some (.inl ([.ref 103, .int o, .int n, .int b, .int t, .int (nI s), .int u, .int (nI m)], memOf g)) ∧ (∀ x, x ≠ 104 → g x = f x) ∧ (∀ y, ¬ (63 ≤ y ∧ y < 119) → g 104 y = f 104 y) ∧ HSt (g 104) m (trW TRS s) ro wd := by
  have m8 := hS.1.2
  have key := while_rel (b := WB_X7_washing_2) (s := WS_X7_washing_2) (fun k => [.ref 103, .int o, .int n, .int b, .int t, .int (nI s), .int u, .int (nI k)]) (fun k g => (∀ x, x ≠ 104 → g x = f x) ∧ (∀ y, (∀ i, i < k → y ≠ 63 + 7 * i + 6) → g 104 y = f 104 y) ∧ ∀ i, i < k → g 104 (63 + 7 * i + 6) = nI (if hasB s i then TRS i 6 else 0)) m (by unfold FU; omega) (fun k g hk hI => ?_) (fun k g hk hI => ?_) (fun g hI => ?_) (f := f) ⟨fun _ _ => rfl, fun _ _ => rfl, fun i hi => absurd hi (by omega)⟩
  · obtain ⟨g, W, I1, I2, I3⟩ := key
    refine ⟨g, W, I1, fun y hy => I2 y (fun i hi => by omega), ⟨?_, m8⟩, fun k hk => ⟨fun j hj => ?_, ?_⟩, fun c hc => ?_, fun c hc => ?_⟩
    · rw [I2 1 (fun i hi => by omega)]; exact hS.1.1
    · unfold trW updN
      by_cases e : j = 6
      · rw [if_pos e, e]; exact I3 k hk
      · rw [if_neg e, I2 _ (fun i hi => by omega)]; exact (hS.2.1 k hk).1 j hj
    · refine updN_TB (hS.2.1 k hk).2 ?_
      split
      · exact (hS.2.1 k hk).2 6 (by omega)
      · exact Nat.zero_le _
    · rw [I2 _ (fun i hi => by omega)]; exact hS.2.2.1 c hc
    · rw [I2 _ (fun i hi => by omega)]; exact hS.2.2.2 c hc
  · have e1 : g 104 1 = nI m := by rw [hI.2.1 1 (fun i hi => by omega)]; exact hS.1.1
    have e : nI k < nI m := (nI_lt_iff (by omega) (by omega)).mpr hk
    simp [WB_X7_washing_2, m_den, l0, Value.category, s_seq, s_if, s_st, s_ret, s_retz, s_retv, s_skip, s_sc, s_inc, s_call, e_c, e_li, e_lr, e_lj, e_un, e_bin, e_if, e_b, b_not, b_and, b_or, b_of, e_call, a_recv, a_snoc, a_nil, prI, prJ, prR, e_gi, e_gr, e_ai, e_ar, s_as, s_aop, s_pf, s_pfz, s_fop, l_set, l_ok, e_div, e_rem, e_len, s_tab, g_103_0, rd_104_1, e1, e]
  · obtain ⟨I1, I2, I3⟩ := hI
    have hs' := X7_has hs (show k < 8 by omega) (memOf g)
    have it := X7_its6 g (k := k) (by omega)
    rw [I2 _ (fun i hi => by omega), (hS.2.1 k hk).1 6 (by omega)] at it
    refine ⟨row g 104 (upd (g 104) (63 + 7 * k + 6) (nI (if hasB s k then TRS k 6 else 0))), ?_, fun x hx => by rw [row_ne _ _ hx]; exact I1 x hx, fun y hy => by rw [row_self, upd_ne _ _ (hy k (by omega))]; exact I2 y (fun i hi => hy i (by omega)), fun i hi => ?_⟩
    · cases c : hasB s k with
      | false =>
        rw [c] at hs'
        have z : nI (if false = true then TRS k 6 else 0) = 0 := rfl
        rw [z]
        simp [WS_X7_washing_2, m_den, l0, Value.category, s_seq, s_if, s_st, s_ret, s_retz, s_retv, s_skip, s_sc, s_inc, s_call, e_c, e_li, e_lr, e_lj, e_un, e_bin, e_if, e_b, b_not, b_and, b_or, b_of, e_call, a_recv, a_snoc, a_nil, prI, prJ, prR, e_gi, e_gr, e_ai, e_ar, s_as, s_aop, s_pf, s_pfz, s_fop, l_set, l_ok, e_div, e_rem, e_len, s_tab, g_103_0, X7_at6, hs', b2i, wr_104 g (show 63 + 7 * k + 6 < 735 by omega), nI_next]
      | true =>
        rw [c] at hs'
        have z : nI (if true = true then TRS k 6 else 0) = nI (TRS k 6) := rfl
        rw [z]
        simp [WS_X7_washing_2, m_den, l0, Value.category, s_seq, s_if, s_st, s_ret, s_retz, s_retv, s_skip, s_sc, s_inc, s_call, e_c, e_li, e_lr, e_lj, e_un, e_bin, e_if, e_b, b_not, b_and, b_or, b_of, e_call, a_recv, a_snoc, a_nil, prI, prJ, prR, e_gi, e_gr, e_ai, e_ar, s_as, s_aop, s_pf, s_pfz, s_fop, l_set, l_ok, e_div, e_rem, e_len, s_tab, g_103_0, X7_at6, hs', b2i, rc_103, it, wr_104 g (show 63 + 7 * k + 6 < 735 by omega), nI_next]
    · rw [row_self]
      by_cases e : i = k
      · subst e; rw [upd_self]
      · rw [upd_ne _ _ (by omega)]; exact I3 i (by omega)
  · have e1 : g 104 1 = nI m := by rw [hI.2.1 1 (fun i hi => by omega)]; exact hS.1.1
    have e : ¬ nI m < nI m := Int32.lt_irrefl
    simp [WB_X7_washing_2, m_den, l0, Value.category, s_seq, s_if, s_st, s_ret, s_retz, s_retv, s_skip, s_sc, s_inc, s_call, e_c, e_li, e_lr, e_lj, e_un, e_bin, e_if, e_b, b_not, b_and, b_or, b_of, e_call, a_recv, a_snoc, a_nil, prI, prJ, prR, e_gi, e_gr, e_ai, e_ar, s_as, s_aop, s_pf, s_pfz, s_fop, l_set, l_ok, e_div, e_rem, e_len, s_tab, g_103_0, rd_104_1, e1, e]
