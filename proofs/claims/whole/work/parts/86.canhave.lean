/-! canHave -/
def qz (q : SMK) : SMK := (fun _ => 0, q.2.1, q.2.2.1, q.2.2.2.1, q.2.2.2.2)
def setB (q : SMK) (b : Nat) : SMK := (q.1, q.2.1, q.2.2.1, q.2.2.2.1, b)
def rA (tr wd : Nat → Nat) (cl : Nat) (q : SMK) (i : Nat) : SMK := run tr wd (burM (tr 0) (tr 4)) cl i (qz q)
theorem rA_le {tr wd : Nat → Nat} (hb : TB tr) (hw : WD wd) (cl : Nat) (q : SMK) (i c : Nat) (hc : c < 36) : (rA tr wd cl q i).1 c ≤ 203 * i := by
  have := run_le (tr := tr) (bb := burM (tr 0) (tr 4)) (h := cl) (M := 0) (q := qz q) hw (fun c _ => burM_le (hb 4 (by omega))) (fun c _ => Nat.le_refl 0) i c hc
  unfold rA; omega
def chV (TRS : Nat → Nat → Nat) (wd : Nat → Nat) (Q : Nat → SMK) (kd cl cell h k : Nat) : Int32 := if und 3 (some (TRS k 0)) kd = true then (if 0 < (rA (TRS k) wd cl (Q k) h).1 cell then (1 : Int32) <<< (nI k &&& 31) else 0) else 0
theorem X6_playAlone (f : FN) {m : Nat} {TRS : Nat → Nat → Nat} {ro : Nat → Option Nat} {wd : Nat → Nat} {Q : Nat → SMK} {bo : Nat → Int} {h : Nat} (w : TW f m TRS ro wd Q bo h) {k cl n : Nat} (hk : k < m) (hcl : cl < 24) (hn : n ≤ 12) : ∃ g, D_X6_playAlone [.ref 0, .int (nI k), .int (nI cl), .int (nI n)] (memOf f) = some (.null, memOf g) ∧ (∀ x, ¬ (82 ≤ x ∧ x ≤ 89) → g x = f x) ∧ HC g 82 (rA (TRS k) wd cl (Q k) n) := by
  have m8 := w.2.1.1.2
  have hb := (w.2.1.2.1 k hk).2
  have hwd : WD wd := fun c hc => (w.2.1.2.2.2 c hc).2
  obtain ⟨f1, T1, T2, T3⟩ := X3_begin f
  have w1 := w.congr (g := f1) (fun j hj => T3 j (by omega)) (T3 104 (by omega))
  obtain ⟨f2, U1, U2, U3, U4⟩ := trial_take f1 w1.2.2.1 hk m8
  have F := J7_fill f2 sh_84 (by omega) 0
  obtain ⟨f3, h3⟩ : ∃ f3, f3 = row f2 84 (fil 36 0 (f2 84)) := ⟨_, rfl⟩
  rw [← h3] at F
  have E3 : ∀ x, x ≠ 84 → f3 x = f2 x := fun x hx => by rw [h3, row_ne _ _ hx]
  have H3 : HC f3 82 (qz (Q k)) := by
    refine ⟨fun c hc => ?_, fun c hc => ?_, ?_, ?_, ?_⟩
    · show f3 84 c = _
      rw [h3, row_self, fil_in _ _ hc]; rfl
    · show f3 85 c = _
      rw [E3 85 (by omega)]; exact U2.2.1 c hc
    · rw [E3 82 (by omega)]; exact U2.2.2.1
    · rw [E3 82 (by omega)]; exact U2.2.2.2.1
    · rw [E3 82 (by omega)]; exact U2.2.2.2.2
  have key := while_rel (b := WB_X6_playAlone_1) (s := WS_X6_playAlone_1) (fun i => [.ref 0, .int (nI k), .int (nI cl), .int (nI n), .int (nI i)]) (fun i g => (∀ x, ¬ (82 ≤ x ∧ x ≤ 89) → g x = f x) ∧ HC g 82 (rA (TRS k) wd cl (Q k) i) ∧ HTr g 82 (TRS k) ∧ ∃ t, HT g t) n (by unfold FU; omega) (fun i g hi hI => ?_) (fun i g hi hI => ?_) (fun g hI => ?_) (f := f3) ⟨fun x hx => by rw [E3 x (by omega), U4 x (by omega), T3 x (by omega)], H3, U3.congr (E3 83 (by omega)), _, T2.congr (fun j h1 h2 => by rw [E3 j (by omega), U4 j (by omega)])⟩
  · obtain ⟨g, W, I1, I2, -⟩ := key
    refine ⟨g, ?_, I1, I2⟩
    have W' : W_X6_playAlone_1 [.ref 0, .int (nI k), .int (nI cl), .int (nI n), .int 0] (memOf f3) = some (.inl ([.ref 0, .int (nI k), .int (nI cl), .int (nI n), .int (nI n)], memOf g)) := W
    simp [D_X6_playAlone, S_X6_playAlone, m_den, l0, Value.category, s_seq, s_if, s_st, s_ret, s_retz, s_retv, s_skip, s_sc, s_inc, s_call, e_c, e_li, e_lr, e_lj, e_un, e_bin, e_if, e_b, b_not, b_and, b_or, b_of, e_call, a_recv, a_snoc, a_nil, prI, prJ, prR, e_gi, e_gr, e_ai, e_ar, s_as, s_aop, s_pf, s_pfz, s_fop, l_set, l_ok, e_div, e_rem, e_len, s_tab, g_0_7, rc_86, T1, g_0_6, g_0_0, g_1_7, rr_6 _ (show k < 8 by omega), rc_82, U1, g_82_1, F, W']
  · have e : nI i < nI n := (nI_lt_iff (by omega) (by omega)).mpr hi
    simp [WB_X6_playAlone_1, m_den, l0, Value.category, s_seq, s_if, s_st, s_ret, s_retz, s_retv, s_skip, s_sc, s_inc, s_call, e_c, e_li, e_lr, e_lj, e_un, e_bin, e_if, e_b, b_not, b_and, b_or, b_of, e_call, a_recv, a_snoc, a_nil, prI, prJ, prR, e_gi, e_gr, e_ai, e_ar, s_as, s_aop, s_pf, s_pfz, s_fop, l_set, l_ok, e_div, e_rem, e_len, s_tab, e]
  · obtain ⟨I1, I2, I3, t, I4⟩ := hI
    have wg := w.congr (g := g) (fun j hj => I1 j (by omega)) (I1 104 (by omega))
    have hm : (cl + i) % 24 < 24 := Nat.mod_lt _ (by omega)
    have r : nI cl + nI i - (nI cl + nI i) / 24 * 24 = nI ((cl + i) % 24) := by rw [nI_a]; exact rem24 (by omega)
    obtain ⟨g2, P1, P2, P3, P4⟩ := X5_playClock g (b := true) (cl := (cl + i) % 24) isCh_82 (by omega) I2 I3 hb wg.2.2.2.1 wg.2.2.2.2.1 I4 hm (fun c hc => by have := rA_le hb hwd cl (Q k) i c hc; omega)
    refine ⟨g2, ?_, fun x hx => by rw [P4 x (by omega) (by omega) (by omega) (by omega)]; exact I1 x hx, P2, I3.congr (P4 83 (by omega) (by omega) (by omega) (by omega)), _, P3⟩
    have P1' : D_X5_playClock [.ref 1, .ref 82, .int (nI ((cl + i) % 24)), .int 1, .ref 86] (memOf g) = some (.null, memOf g2) := P1
    simp [WS_X6_playAlone_1, m_den, l0, Value.category, s_seq, s_if, s_st, s_ret, s_retz, s_retv, s_skip, s_sc, s_inc, s_call, e_c, e_li, e_lr, e_lj, e_un, e_bin, e_if, e_b, b_not, b_and, b_or, b_of, e_call, a_recv, a_snoc, a_nil, prI, prJ, prR, e_gi, e_gr, e_ai, e_ar, s_as, s_aop, s_pf, s_pfz, s_fop, l_set, l_ok, e_div, e_rem, e_len, s_tab, g_0_0, g_0_6, g_0_7, r, rc_1, P1', nI_next]
  · have e : ¬ nI n < nI n := Int32.lt_irrefl
    simp [WB_X6_playAlone_1, m_den, l0, Value.category, s_seq, s_if, s_st, s_ret, s_retz, s_retv, s_skip, s_sc, s_inc, s_call, e_c, e_li, e_lr, e_lj, e_un, e_bin, e_if, e_b, b_not, b_and, b_or, b_of, e_call, a_recv, a_snoc, a_nil, prI, prJ, prR, e_gi, e_gr, e_ai, e_ar, s_as, s_aop, s_pf, s_pfz, s_fop, l_set, l_ok, e_div, e_rem, e_len, s_tab, e]
theorem X6_canHave_W (f : FN) {m : Nat} {TRS : Nat → Nat → Nat} {ro : Nat → Option Nat} {wd : Nat → Nat} {Q : Nat → SMK} {bo : Nat → Int} {h : Nat} (w : TW f m TRS ro wd Q bo h) {kd cl cell n : Nat} (hkd : kd < 7) (hcl : cl < 24) (hce : cell < 36) (hn : n ≤ 12) : ∃ g, W_X6_canHave_1 [.ref 0, .int (nI kd), .int (nI cl), .int (nI cell), .int (nI n), .int 0, .int 0] (memOf f) = some (.inl ([.ref 0, .int (nI kd), .int (nI cl), .int (nI cell), .int (nI n), .int (orI m (chV TRS wd Q kd cl cell n)), .int (nI m)], memOf g)) ∧ ∀ x, ¬ (82 ≤ x ∧ x ≤ 89) → g x = f x := by
  have m8 := w.2.1.1.2
  have key := while_rel (b := WB_X6_canHave_1) (s := WS_X6_canHave_1) (fun k => [.ref 0, .int (nI kd), .int (nI cl), .int (nI cell), .int (nI n), .int (orI k (chV TRS wd Q kd cl cell n)), .int (nI k)]) (fun k g => ∀ x, ¬ (82 ≤ x ∧ x ≤ 89) → g x = f x) m (by unfold FU; omega) (fun k g hk hI => ?_) (fun k g hk hI => ?_) (fun g hI => ?_) (f := f) (fun _ _ => rfl)
  · exact key
  · have e1 : g 1 2 = nI m := by rw [hI 1 (by omega)]; exact w.1.2.2.2
    have e : nI k < nI m := (nI_lt_iff (by omega) (by omega)).mpr hk
    simp [WB_X6_canHave_1, m_den, l0, Value.category, s_seq, s_if, s_st, s_ret, s_retz, s_retv, s_skip, s_sc, s_inc, s_call, e_c, e_li, e_lr, e_lj, e_un, e_bin, e_if, e_b, b_not, b_and, b_or, b_of, e_call, a_recv, a_snoc, a_nil, prI, prJ, prR, e_gi, e_gr, e_ai, e_ar, s_as, s_aop, s_pf, s_pfz, s_fop, l_set, l_ok, e_div, e_rem, e_len, s_tab, g_0_0, g_1_2, e1, e]
  · have wg := w.congr (g := g) (fun j hj => hI j (by omega)) (hI 104 (by omega))
    have hC := isCh_town (b := 1) (c := k) (Or.inl rfl) (by omega)
    have hb := (w.2.1.2.1 k hk).2
    have hwd : WD wd := fun c hc => (w.2.1.2.2.2 c hc).2
    have k0 : TRS k 0 < 7 := by have := hb 0 (by omega); simp only [lim] at this; omega
    have t0 := (wg.2.2.1 k hk).2.2 0 (by omega)
    have un := X6_isUnder (memOf g) k0 hkd
    by_cases cu : und 3 (some (TRS k 0)) kd = true
    · obtain ⟨g2, P1, P2, P3⟩ := X6_playAlone g wg hk hcl hn
      have r := rd_84 g2 hce
      have r' : gm_rd (memOf g2) 84 (nI cell) = some (nI ((rA (TRS k) wd cl (Q k) n).1 cell)) := by rw [r]; exact congrArg some (P3.1 cell hce)
      have q := nI_lt_iff (a := 0) (b := (rA (TRS k) wd cl (Q k) n).1 cell) (by omega) (by have := rA_le hb hwd cl (Q k) n cell hce; omega)
      refine ⟨g2, ?_, fun x hx => by rw [P2 x hx]; exact hI x hx⟩
      by_cases c0 : 0 < (rA (TRS k) wd cl (Q k) n).1 cell
      · have e : 0 < nI ((rA (TRS k) wd cl (Q k) n).1 cell) := q.mpr c0
        have ev : chV TRS wd Q kd cl cell n k = (1 : Int32) <<< (nI k &&& 31) := by unfold chV; rw [if_pos cu, if_pos c0]
        simp [WS_X6_canHave_1, m_den, l0, Value.category, s_seq, s_if, s_st, s_ret, s_retz, s_retv, s_skip, s_sc, s_inc, s_call, e_c, e_li, e_lr, e_lj, e_un, e_bin, e_if, e_b, b_not, b_and, b_or, b_of, e_call, a_recv, a_snoc, a_nil, prI, prJ, prR, e_gi, e_gr, e_ai, e_ar, s_as, s_aop, s_pf, s_pfz, s_fop, l_set, l_ok, e_div, e_rem, e_len, s_tab, g_0_0, g_1_7, rr_6 g (show k < 8 by omega), gch0 g hC, rdt0 g hC, t0, un, cu, rc_0, P1, g_0_6, g_82_1, r', e, orI, ev, nI_next]
      · have e : ¬ 0 < nI ((rA (TRS k) wd cl (Q k) n).1 cell) := fun z => c0 (q.mp z)
        have ev : chV TRS wd Q kd cl cell n k = 0 := by unfold chV; rw [if_pos cu, if_neg c0]
        simp [WS_X6_canHave_1, m_den, l0, Value.category, s_seq, s_if, s_st, s_ret, s_retz, s_retv, s_skip, s_sc, s_inc, s_call, e_c, e_li, e_lr, e_lj, e_un, e_bin, e_if, e_b, b_not, b_and, b_or, b_of, e_call, a_recv, a_snoc, a_nil, prI, prJ, prR, e_gi, e_gr, e_ai, e_ar, s_as, s_aop, s_pf, s_pfz, s_fop, l_set, l_ok, e_div, e_rem, e_len, s_tab, g_0_0, g_1_7, rr_6 g (show k < 8 by omega), gch0 g hC, rdt0 g hC, t0, un, cu, rc_0, P1, g_0_6, g_82_1, r', e, orI, ev, nI_next]
    · have ev : chV TRS wd Q kd cl cell n k = 0 := by unfold chV; rw [if_neg cu]
      refine ⟨g, ?_, hI⟩
      simp [WS_X6_canHave_1, m_den, l0, Value.category, s_seq, s_if, s_st, s_ret, s_retz, s_retv, s_skip, s_sc, s_inc, s_call, e_c, e_li, e_lr, e_lj, e_un, e_bin, e_if, e_b, b_not, b_and, b_or, b_of, e_call, a_recv, a_snoc, a_nil, prI, prJ, prR, e_gi, e_gr, e_ai, e_ar, s_as, s_aop, s_pf, s_pfz, s_fop, l_set, l_ok, e_div, e_rem, e_len, s_tab, g_0_0, g_1_7, rr_6 g (show k < 8 by omega), gch0 g hC, rdt0 g hC, t0, un, cu, orI, ev, nI_next]
  · have e1 : g 1 2 = nI m := by rw [hI 1 (by omega)]; exact w.1.2.2.2
    have e : ¬ nI m < nI m := Int32.lt_irrefl
    simp [WB_X6_canHave_1, m_den, l0, Value.category, s_seq, s_if, s_st, s_ret, s_retz, s_retv, s_skip, s_sc, s_inc, s_call, e_c, e_li, e_lr, e_lj, e_un, e_bin, e_if, e_b, b_not, b_and, b_or, b_of, e_call, a_recv, a_snoc, a_nil, prI, prJ, prR, e_gi, e_gr, e_ai, e_ar, s_as, s_aop, s_pf, s_pfz, s_fop, l_set, l_ok, e_div, e_rem, e_len, s_tab, g_0_0, g_1_2, e1, e]
theorem wind_setB (w : Nat) (q : SMK) (b : Nat) : smWind w (setB q b) = setB (smWind w q) b := by unfold smWind setB; split <;> rfl
theorem X7_canHave_W1 (f : FN) {k : Nat} (hk : k < 8) (a1 a2 a3 a4 a5 : Int32) : ∃ g, W_X7_canHave_1 [.ref 103, .int a1, .int a2, .int a3, .int a4, .int a5, .int (nI k), .int 0] (memOf f) = some (.inl ([.ref 103, .int a1, .int a2, .int a3, .int a4, .int a5, .int (nI k), .int (nI 36)], memOf g)) ∧ (∀ x, x ≠ 104 → g x = f x) ∧ (∀ y, ¬ (125 + 36 * k ≤ y ∧ y < 161 + 36 * k) → g 104 y = f 104 y) ∧ ∀ c, c < 36 → g 104 (125 + 36 * k + c) = 0 := by
  have key := while_rel (b := WB_X7_canHave_1) (s := WS_X7_canHave_1) (fun j => [.ref 103, .int a1, .int a2, .int a3, .int a4, .int a5, .int (nI k), .int (nI j)]) (fun j g => (∀ x, x ≠ 104 → g x = f x) ∧ (∀ y, ¬ (125 + 36 * k ≤ y ∧ y < 161 + 36 * k) → g 104 y = f 104 y) ∧ ∀ c, c < j → g 104 (125 + 36 * k + c) = 0) 36 (by unfold FU; omega) (fun j g hj hI => ?_) (fun j g hj hI => ?_) (fun g hI => ?_) (f := f) ⟨fun _ _ => rfl, fun _ _ => rfl, fun c hc => absurd hc (by omega)⟩
  · exact key
  · have e : nI j < (36 : Int32) := lt_lit (n := 36) hj (by omega)
    simp [WB_X7_canHave_1, m_den, l0, Value.category, s_seq, s_if, s_st, s_ret, s_retz, s_retv, s_skip, s_sc, s_inc, s_call, e_c, e_li, e_lr, e_lj, e_un, e_bin, e_if, e_b, b_not, b_and, b_or, b_of, e_call, a_recv, a_snoc, a_nil, prI, prJ, prR, e_gi, e_gr, e_ai, e_ar, s_as, s_aop, s_pf, s_pfz, s_fop, l_set, l_ok, e_div, e_rem, e_len, s_tab, e]
  · obtain ⟨I1, I2, I3⟩ := hI
    refine ⟨row g 104 (upd (g 104) (125 + 36 * k + j) 0), ?_, fun x hx => by rw [row_ne _ _ hx]; exact I1 x hx, fun y hy => by rw [row_self, upd_ne _ _ (by omega)]; exact I2 y hy, fun c hc => ?_⟩
    · simp [WS_X7_canHave_1, m_den, l0, Value.category, s_seq, s_if, s_st, s_ret, s_retz, s_retv, s_skip, s_sc, s_inc, s_call, e_c, e_li, e_lr, e_lj, e_un, e_bin, e_if, e_b, b_not, b_and, b_or, b_of, e_call, a_recv, a_snoc, a_nil, prI, prJ, prR, e_gi, e_gr, e_ai, e_ar, s_as, s_aop, s_pf, s_pfz, s_fop, l_set, l_ok, e_div, e_rem, e_len, s_tab, g_103_0, i125, wr_104 g (show 125 + 36 * k + j < 735 by omega), nI_next]
    · rw [row_self]
      by_cases e : c = j
      · subst e; rw [upd_self]
      · rw [upd_ne _ _ (by omega)]; exact I3 c (by omega)
  · have e : ¬ nI 36 < (36 : Int32) := nlt_lit (n := 36) (by omega)
    simp [WB_X7_canHave_1, m_den, l0, Value.category, s_seq, s_if, s_st, s_ret, s_retz, s_retv, s_skip, s_sc, s_inc, s_call, e_c, e_li, e_lr, e_lj, e_un, e_bin, e_if, e_b, b_not, b_and, b_or, b_of, e_call, a_recv, a_snoc, a_nil, prI, prJ, prR, e_gi, e_gr, e_ai, e_ar, s_as, s_aop, s_pf, s_pfz, s_fop, l_set, l_ok, e_div, e_rem, e_len, s_tab, e]
theorem X7_canHave_W2 (f : FN) {k cl n : Nat} {tr wd : Nat → Nat} {ro : Nat → Option Nat} {q : SMK} (hk : k < 8) (hcl : cl < 24) (hn : n ≤ 12) (hR : HR (f 104) k (qz q)) (ht : HRt (f 104) k tr) (hb : TB tr) (hRo : HRoR (f 104) ro) (hW : HWiR (f 104) wd) (a1 a3 a5 : Int32) : ∃ g, W_X7_canHave_2 [.ref 103, .int a1, .int (nI cl), .int a3, .int (nI n), .int a5, .int (nI k), .int 0] (memOf f) = some (.inl ([.ref 103, .int a1, .int (nI cl), .int a3, .int (nI n), .int a5, .int (nI k), .int (nI n)], memOf g)) ∧ (∀ x, x ≠ 103 → x ≠ 104 → x ≠ 108 → x ≠ 109 → g x = f x) ∧ (∀ y, y ≠ 9 → g 103 y = f 103 y) ∧ (∀ y, ¬ (119 ≤ y ∧ y < 125) → ¬ inCh k y → g 104 y = f 104 y) ∧ ∀ c, c < 36 → g 104 (125 + 36 * k + c) = nI ((rA tr wd cl q n).1 c) := by
  have k0 : tr 0 < 7 := by have := hb 0 (by omega); simp only [lim] at this; omega
  have k2 : tr 2 < 36 := by have := hb 2 (by omega); simp only [lim] at this; omega
  have hwd : WD wd := fun c hc => (hW c hc).2
  have key := while_rel (b := WB_X7_canHave_2) (s := WS_X7_canHave_2) (fun i => [.ref 103, .int a1, .int (nI cl), .int a3, .int (nI n), .int a5, .int (nI k), .int (nI i)]) (fun i g => (∀ x, x ≠ 103 → x ≠ 104 → x ≠ 108 → x ≠ 109 → g x = f x) ∧ (∀ y, y ≠ 9 → g 103 y = f 103 y) ∧ (∀ y, ¬ (119 ≤ y ∧ y < 125) → ¬ inCh k y → g 104 y = f 104 y) ∧ HR (g 104) k (setB (rA tr wd cl q i) q.2.2.2.2)) n (by unfold FU; omega) (fun i g hi hI => ?_) (fun i g hi hI => ?_) (fun g hI => ?_) (f := f) ⟨fun _ _ _ _ _ => rfl, fun _ _ => rfl, fun _ _ _ => rfl, hR⟩
  · obtain ⟨g, W, I1, I2, I3, I4⟩ := key
    exact ⟨g, W, I1, I2, I3, I4.1⟩
  · have e : nI i < nI n := (nI_lt_iff (by omega) (by omega)).mpr hi
    simp [WB_X7_canHave_2, m_den, l0, Value.category, s_seq, s_if, s_st, s_ret, s_retz, s_retv, s_skip, s_sc, s_inc, s_call, e_c, e_li, e_lr, e_lj, e_un, e_bin, e_if, e_b, b_not, b_and, b_or, b_of, e_call, a_recv, a_snoc, a_nil, prI, prJ, prR, e_gi, e_gr, e_ai, e_ar, s_as, s_aop, s_pf, s_pfz, s_fop, l_set, l_ok, e_div, e_rem, e_len, s_tab, e]
  · obtain ⟨I1, I2, I3, I4⟩ := hI
    have hm : (cl + i) % 24 < 24 := Nat.mod_lt _ (by omega)
    have r : nI cl + nI i - (nI cl + nI i) / 24 * 24 = nI ((cl + i) % 24) := by rw [nI_a]; exact rem24 (by omega)
    have fr : ∀ y, 3 ≤ y → y < 119 → g 104 y = f 104 y := fun y h1 h2 => I3 y (by omega) (by unfold inCh; omega)
    have it := X7_its2 g hk
    rw [fr _ (by omega) (by omega), ht 2 (by omega)] at it
    have BU := X7_burnsAt g hk k0 hm (by rw [fr _ (by omega) (by omega)]; exact ht 0 (by omega)) (by rw [fr _ (by omega) (by omega)]; exact ht 4 (by omega))
    rw [burM_eq] at BU
    obtain ⟨q1, q2, q3, q4, q5⟩ := I4
    have r1 := rd_104 g (show 125 + 36 * k + tr 2 < 735 by omega)
    rw [q1 _ k2] at r1
    obtain ⟨R, eR⟩ : ∃ R, R = rA tr wd cl q i := ⟨_, rfl⟩
    obtain ⟨bb, eb⟩ : ∃ bb, bb = burM (tr 0) (tr 4) ((cl + i) % 24) := ⟨_, rfl⟩
    rw [← eR] at q1 q2 q3 q4 q5 r1
    rw [← eb] at BU
    obtain ⟨g1, h1⟩ : ∃ g1, g1 = row g 104 (upd (g 104) (125 + 36 * k + tr 2) (nI (R.1 (tr 2)) + nI bb)) := ⟨_, rfl⟩
    have w1 := wr_104 g (show 125 + 36 * k + tr 2 < 735 by omega) (nI (R.1 (tr 2)) + nI bb)
    rw [← h1] at w1
    have e14 : ∀ y, y ≠ 125 + 36 * k + tr 2 → g1 104 y = g 104 y := fun y hy => by rw [h1, row_self, upd_ne _ _ hy]
    have H1 : HR (g1 104) k (setB (smBurn (tr 2) bb R) q.2.2.2.2) := by
      refine ⟨fun c hc => ?_, fun c hc => by rw [e14 _ (by omega)]; exact q2 c hc, by rw [e14 _ (by omega)]; exact q3, by rw [e14 _ (by omega)]; exact q4, by rw [e14 _ (by omega)]; exact q5⟩
      show _ = nI (if c = tr 2 then R.1 c + bb else R.1 c)
      by_cases e : c = tr 2
      · rw [if_pos e, e, h1, row_self, upd_self, nI_a]
      · rw [if_neg e, e14 _ (by omega)]; exact q1 c hc
    have hw5 := (hW _ hm).2
    obtain ⟨g2, G1, G2, G3, G4⟩ := X7_goes g1 hk hw5 H1
    rw [wind_setB] at G2
    have fr2 : ∀ y, 3 ≤ y → y < 119 → g2 104 y = f 104 y := fun y h1 h2 => by
      rw [G4 y (by omega) (by omega) (by omega), e14 y (by omega)]; exact fr y h1 h2
    have hRle : ∀ c, c < 36 → R.1 c ≤ 203 * i := fun c hc => by rw [eR]; exact rA_le hb hwd cl q i c hc
    have hble : bb ≤ 203 := by rw [eb]; exact burM_le (hb 4 (by omega))
    obtain ⟨g3, S1, S2, S3, S4, S5, S6, S7, S8⟩ := X7_settles g2 hk G2 (fun x hx => by rw [fr2 _ (by omega) (by omega)]; exact ht x hx) hb (ro := ro) (fun c hc => by rw [fr2 _ (by omega) (by omega)]; exact hRo c hc) (fun c hc => by
      have := smWind_le hw5 (smBurn_le (ce := tr 2) (b := bb) hRle) c hc
      show (smWind _ (smBurn (tr 2) bb R)).1 c ≤ _
      omega)
    refine ⟨g3, ?_, fun x c1 c2 c3 c4 => by rw [S3 x c1 c2 c4, G3 x c2 c3, h1, row_ne _ _ c2]; exact I1 x c1 c2 c3 c4, fun y hy => by rw [S4 y hy, G3 103 (by omega) (by omega), h1, row_ne _ _ (by omega)]; exact I2 y hy, fun y c1 c2 => ?_, ?_⟩
    · have i39 : (39 : Int32) + nI ((cl + i) % 24) = nI (39 + (cl + i) % 24) := nI_a 39 _
      have rw' := rd_104 g1 (show 39 + (cl + i) % 24 < 735 by omega)
      rw [e14 _ (by omega), fr _ (by omega) (by omega), (hW _ hm).1] at rw'
      have r1' : gm_rd (memOf g) 104 (nI (125 + 36 * k + tr 2)) = some (nI (R.1 (tr 2))) := r1
      simp [WS_X7_canHave_2, m_den, l0, Value.category, s_seq, s_if, s_st, s_ret, s_retz, s_retv, s_skip, s_sc, s_inc, s_call, e_c, e_li, e_lr, e_lj, e_un, e_bin, e_if, e_b, b_not, b_and, b_or, b_of, e_call, a_recv, a_snoc, a_nil, prI, prJ, prR, e_gi, e_gr, e_ai, e_ar, s_as, s_aop, s_pf, s_pfz, s_fop, l_set, l_ok, e_div, e_rem, e_len, s_tab, r, g_103_0, rc_103, it, i125, r1', BU, w1, i39, rw', G1, S1, nI_next]
    · have c2' := c2
      unfold inCh at c2
      rw [S6 y c1 (by omega) (by omega), G4 y (by omega) (by omega) (by omega), e14 y (by omega)]
      exact I3 y c1 c2'
    · have e : rA tr wd cl q (i + 1) = stp tr (wd ((cl + i) % 24)) bb R := by rw [eR, eb]; rfl
      rw [e]
      exact S2
  · have e : ¬ nI n < nI n := Int32.lt_irrefl
    simp [WB_X7_canHave_2, m_den, l0, Value.category, s_seq, s_if, s_st, s_ret, s_retz, s_retv, s_skip, s_sc, s_inc, s_call, e_c, e_li, e_lr, e_lj, e_un, e_bin, e_if, e_b, b_not, b_and, b_or, b_of, e_call, a_recv, a_snoc, a_nil, prI, prJ, prR, e_gi, e_gr, e_ai, e_ar, s_as, s_aop, s_pf, s_pfz, s_fop, l_set, l_ok, e_div, e_rem, e_len, s_tab, e]
