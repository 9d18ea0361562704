/-! reaches -/
theorem orB_iff {n : Nat} {h : Nat → Bool} : orB n h = true ↔ ∃ i, i < n ∧ h i = true := by
  induction n with
  | zero => exact ⟨fun q => (by cases q), fun ⟨i, hi, _⟩ => absurd hi (by omega)⟩
  | succ n ih =>
    show (orB n h || h n) = true ↔ _
    rw [Bool.or_eq_true, ih]
    constructor
    · rintro (⟨i, h1, h2⟩ | h2)
      · exact ⟨i, by omega, h2⟩
      · exact ⟨n, by omega, h2⟩
    · rintro ⟨i, h1, h2⟩
      by_cases c : i = n
      · subst c; exact Or.inr h2
      · exact Or.inl ⟨i, by omega, h2⟩
theorem tlR_step (tr wd bb : Nat → Nat) (ro : Nat → Option Nat) (h j : Nat) (q : SMK) (t : TL) : tlR tr wd bb ro h j q 1 (tlR tr wd bb ro h 0 q j t) = tlR tr wd bb ro h 0 q (j + 1) t := by
  show tlS 36 (ptR tr wd bb h (j + 0) q) (woM (tr 0)) (tr 1) ro (tlR tr wd bb ro h 0 q j t) = tlS 36 (ptR tr wd bb h (0 + j) q) (woM (tr 0)) (tr 1) ro (tlR tr wd bb ro h 0 q j t)
  rw [Nat.add_zero, Nat.zero_add]
theorem hits {m k o : Nat} {TRS : Nat → Nat → Nat} {ro : Nat → Option Nat} {wd : Nat → Nat} {Q : Nat → SMK} {h : Nat} (hk : k < m) (hm : m ≤ 8) (ho : o < 6) (hr : ∀ c, c < 36 → ∀ o, ro c = some o → o < 6) (i : Nat) : orB m (fun k' => nH TRS wd ro h Q (nI k) (nI o) i k') = true ↔ 0 < nO TRS wd ro h Q i k o := by
  rw [orB_iff]
  unfold nO dO
  rw [csI_pos]
  constructor
  · rintro ⟨k', h1, h2⟩
    unfold nH at h2
    obtain ⟨c, hc, h3⟩ := orB_iff.mp h2
    unfold hitB at h3
    simp only [Bool.and_eq_true, decide_eq_true_eq] at h3
    obtain ⟨⟨h4, h5⟩, h6, h7⟩ := h3
    have e1 : k' = k := (nI_inj (by omega) (by omega)).mp h6
    subst e1
    cases hro : ro c with
    | none => rw [hro] at h5; cases h5
    | some r =>
      rw [hro] at h7
      have h8 := hr c hc r hro
      have e2 : r = o := (nI_inj (a := r) (b := o) (by omega) (by omega)).mp h7
      subst e2
      refine ⟨c, hc, ?_⟩
      unfold kO
      rw [if_pos hro]; exact h4
  · rintro ⟨c, hc, h2⟩
    refine ⟨k, hk, ?_⟩
    unfold nH
    rw [orB_iff]
    refine ⟨c, hc, ?_⟩
    unfold kO at h2
    by_cases c1 : ro c = some o
    · rw [if_pos c1] at h2
      unfold hitB
      simp only [Bool.and_eq_true, decide_eq_true_eq]
      exact ⟨⟨h2, by rw [c1]; rfl⟩, trivial, by rw [c1]; rfl⟩
    · rw [if_neg c1] at h2; exact absurd h2 (by omega)
theorem X6_reaches_no0 (f : FN) {c o : Int32} (h : ¬ (0 ≤ c ∧ c ≤ f 1 2 - 1 ∧ 0 ≤ o ∧ o ≤ 5)) : D_X6_reaches [.ref 0, .int c, .int o] (memOf f) = some (.int (-1000001), memOf (row f 81 (upd (f 81) 0 (f 81 0 + 1)))) := by
  by_cases h1 : 0 ≤ c
  · by_cases h2 : c ≤ f 1 2 - 1
    · by_cases h3 : 0 ≤ o
      · have h4 : ¬ (o ≤ 5) := fun q => h ⟨h1, h2, h3, q⟩
        simp [D_X6_reaches, S_X6_reaches, m_den, l0, Value.category, s_seq, s_if, s_st, s_ret, s_retz, s_retv, s_skip, s_sc, s_inc, s_call, e_c, e_li, e_lr, e_lj, e_un, e_bin, e_if, e_b, b_not, b_and, b_or, b_of, e_call, a_recv, a_snoc, a_nil, prI, prJ, prR, e_gi, e_gr, e_ai, e_ar, s_as, s_aop, s_pf, s_pfz, s_fop, l_set, l_ok, e_div, e_rem, e_len, s_tab, X6_isChimney, X6_isOwner, rc_0, X6_fin_0, h1, h2, h3, h4]
      · simp [D_X6_reaches, S_X6_reaches, m_den, l0, Value.category, s_seq, s_if, s_st, s_ret, s_retz, s_retv, s_skip, s_sc, s_inc, s_call, e_c, e_li, e_lr, e_lj, e_un, e_bin, e_if, e_b, b_not, b_and, b_or, b_of, e_call, a_recv, a_snoc, a_nil, prI, prJ, prR, e_gi, e_gr, e_ai, e_ar, s_as, s_aop, s_pf, s_pfz, s_fop, l_set, l_ok, e_div, e_rem, e_len, s_tab, X6_isChimney, X6_isOwner, rc_0, X6_fin_0, h1, h2, h3]
    · simp [D_X6_reaches, S_X6_reaches, m_den, l0, Value.category, s_seq, s_if, s_st, s_ret, s_retz, s_retv, s_skip, s_sc, s_inc, s_call, e_c, e_li, e_lr, e_lj, e_un, e_bin, e_if, e_b, b_not, b_and, b_or, b_of, e_call, a_recv, a_snoc, a_nil, prI, prJ, prR, e_gi, e_gr, e_ai, e_ar, s_as, s_aop, s_pf, s_pfz, s_fop, l_set, l_ok, e_div, e_rem, e_len, s_tab, X6_isChimney, X6_isOwner, rc_0, X6_fin_0, h1, h2]
  · simp [D_X6_reaches, S_X6_reaches, m_den, l0, Value.category, s_seq, s_if, s_st, s_ret, s_retz, s_retv, s_skip, s_sc, s_inc, s_call, e_c, e_li, e_lr, e_lj, e_un, e_bin, e_if, e_b, b_not, b_and, b_or, b_of, e_call, a_recv, a_snoc, a_nil, prI, prJ, prR, e_gi, e_gr, e_ai, e_ar, s_as, s_aop, s_pf, s_pfz, s_fop, l_set, l_ok, e_div, e_rem, e_len, s_tab, X6_isChimney, X6_isOwner, rc_0, X6_fin_0, h1]
theorem X7_reaches_no0 (f : FN) {c o : Int32} (h : ¬ (0 ≤ c ∧ c ≤ f 104 1 - 1 ∧ 0 ≤ o ∧ o ≤ 5)) : D_X7_reaches [.ref 103, .int c, .int o] (memOf f) = some (.int (-1000001), memOf (row f 107 (upd (f 107) 0 (f 107 0 + 1)))) := by
  by_cases h1 : 0 ≤ c
  · by_cases h2 : c ≤ f 104 1 - 1
    · by_cases h3 : 0 ≤ o
      · have h4 : ¬ (o ≤ 5) := fun q => h ⟨h1, h2, h3, q⟩
        simp [D_X7_reaches, S_X7_reaches, m_den, l0, Value.category, s_seq, s_if, s_st, s_ret, s_retz, s_retv, s_skip, s_sc, s_inc, s_call, e_c, e_li, e_lr, e_lj, e_un, e_bin, e_if, e_b, b_not, b_and, b_or, b_of, e_call, a_recv, a_snoc, a_nil, prI, prJ, prR, e_gi, e_gr, e_ai, e_ar, s_as, s_aop, s_pf, s_pfz, s_fop, l_set, l_ok, e_div, e_rem, e_len, s_tab, X7_isChimney, X7_isOwner, rc_103, X7_fin_0, h1, h2, h3, h4]
      · simp [D_X7_reaches, S_X7_reaches, m_den, l0, Value.category, s_seq, s_if, s_st, s_ret, s_retz, s_retv, s_skip, s_sc, s_inc, s_call, e_c, e_li, e_lr, e_lj, e_un, e_bin, e_if, e_b, b_not, b_and, b_or, b_of, e_call, a_recv, a_snoc, a_nil, prI, prJ, prR, e_gi, e_gr, e_ai, e_ar, s_as, s_aop, s_pf, s_pfz, s_fop, l_set, l_ok, e_div, e_rem, e_len, s_tab, X7_isChimney, X7_isOwner, rc_103, X7_fin_0, h1, h2, h3]
    · simp [D_X7_reaches, S_X7_reaches, m_den, l0, Value.category, s_seq, s_if, s_st, s_ret, s_retz, s_retv, s_skip, s_sc, s_inc, s_call, e_c, e_li, e_lr, e_lj, e_un, e_bin, e_if, e_b, b_not, b_and, b_or, b_of, e_call, a_recv, a_snoc, a_nil, prI, prJ, prR, e_gi, e_gr, e_ai, e_ar, s_as, s_aop, s_pf, s_pfz, s_fop, l_set, l_ok, e_div, e_rem, e_len, s_tab, X7_isChimney, X7_isOwner, rc_103, X7_fin_0, h1, h2]
  · simp [D_X7_reaches, S_X7_reaches, m_den, l0, Value.category, s_seq, s_if, s_st, s_ret, s_retz, s_retv, s_skip, s_sc, s_inc, s_call, e_c, e_li, e_lr, e_lj, e_un, e_bin, e_if, e_b, b_not, b_and, b_or, b_of, e_call, a_recv, a_snoc, a_nil, prI, prJ, prR, e_gi, e_gr, e_ai, e_ar, s_as, s_aop, s_pf, s_pfz, s_fop, l_set, l_ok, e_div, e_rem, e_len, s_tab, X7_isChimney, X7_isOwner, rc_103, X7_fin_0, h1]
theorem agr_reaches {f : FN} (h : REL f) (x u : Int32) : AGR D_X6_reaches D_X7_reaches [.int x, .int u] f := by
  obtain ⟨⟨m, hT, hV⟩, -⟩ := id h
  obtain ⟨TRS, ro, wd, Q, bo, hh, w⟩ := TW.ex hT hV
  obtain ⟨⟨b1, b2, b3, b4⟩, hS, sp, ro', wd', bk', tk, bn⟩ := id w
  have em : f 1 2 = nI m := b4
  have em' : f 104 1 = nI m := hS.1.1
  have m8 := hS.1.2
  by_cases hc : 0 ≤ x ∧ x ≤ nI m - 1 ∧ 0 ≤ u ∧ u ≤ 5
  · obtain ⟨k, hk, rfl⟩ := chi_ex ⟨hc.1, hc.2.1⟩ m8
    obtain ⟨o, ho, rfl⟩ := in_ex (n := 5) hc.2.2 (by omega)
    obtain ⟨a1, a2, a3, a4⟩ := hc
    have hAl := w.A_le
    have k8 : k < 8 := by omega
    have hq : (nI hh + 72 ≤ 9999) = (hh + 72 ≤ 9999) := hor (h := hh) (n := 72) b3 (by omega)
    by_cases hN : hh + 72 ≤ 9999
    · obtain ⟨f1, T1, T2, T3⟩ := X3_begin f
      have w1 := w.congr (g := f1) (fun j hj => T3 j (by omega)) (T3 104 (by omega))
      obtain ⟨f2, U1, U2, U3, U4⟩ := trial_take f1 w1.2.2.1 hk m8
      have F2 : ∀ x, ¬ (82 ≤ x ∧ x ≤ 89) → f2 x = f x := fun x hx => by rw [U4 x (by omega), T3 x (by omega)]
      obtain ⟨Y, eY⟩ : ∃ Y : Nat → Nat, Y = fun j => csI j (fun i => nO TRS wd ro hh Q i k o) := ⟨_, rfl⟩
      have hbig : ∀ j, j ≤ 73 → Y j < 2 ^ 31 := fun j hj => by
        have a := w.run_A hk j
        have b : Y j ≤ csI j (fun i => dS (TRS k) wd (bM (TRS k)) hh i (Q k)) := by
          rw [eY]; exact csI_mono (fun i _ => dO_le _ _ _ _ _ _ _ _)
        have c := run_S (tr := TRS k) (wd := wd) (bb := bM (TRS k)) (h := hh) (q := Q k) j
        unfold tot rn at a
        omega
      let I : Nat → FN → Prop := fun j g => (∀ x, ¬ (82 ≤ x ∧ x ≤ 89) → g x = f x) ∧ HC g 82 (rn TRS wd hh Q j k) ∧ HTr g 82 (TRS k) ∧ HT g (tlR (TRS k) wd (bM (TRS k)) ro hh 0 (Q k) j tl0)
      have I0 : I 0 f2 := ⟨F2, U2, U3, T2.congr (fun j h1 h2 => U4 j (by omega))⟩
      have cb : ∀ j g, j < 72 → I j g → WB_X6_reaches_1 [.ref 0, .int (nI k), .int (nI o), .int (nI j)] (memOf g) = some (true, memOf g) := fun j g hj _ => by
        have e : nI j < (72 : Int32) := lt_lit (n := 72) hj (by omega)
        simp [WB_X6_reaches_1, m_den, l0, Value.category, s_seq, s_if, s_st, s_ret, s_retz, s_retv, s_skip, s_sc, s_inc, s_call, e_c, e_li, e_lr, e_lj, e_un, e_bin, e_if, e_b, b_not, b_and, b_or, b_of, e_call, a_recv, a_snoc, a_nil, prI, prJ, prR, e_gi, e_gr, e_ai, e_ar, s_as, s_aop, s_pf, s_pfz, s_fop, l_set, l_ok, e_div, e_rem, e_len, s_tab, e]
      have cs : ∀ j g, j < 72 → I j g → ∃ g', D_X5_playHours [.ref 1, .ref 82, .int (nI j), .int 1, .ref 86] (memOf g) = some (.null, memOf g') ∧ I (j + 1) g' ∧ g' 88 o = nI (Y (j + 1)) := fun j g hj hI => by
        obtain ⟨I1, I2, I3, I4⟩ := hI
        have wg := w.congr (g := g) (fun j hj => I1 j (by omega)) (I1 104 (by omega))
        obtain ⟨g2, P1, P2, P3, P4⟩ := X5_playHours g (n0 := j) (n := 1) (q := Q k) isCh_82 (by omega) wg.1.1 I2 I3 (hS.2.1 k hk).2 wg.2.2.2.1 wg.2.2.2.2.1 I4 (hAl k hk) (by omega)
        rw [tlR_step] at P3
        refine ⟨g2, P1, ⟨fun x hx => by rw [P4 x (by omega) (by omega) (by omega) (by omega)]; exact I1 x hx, P2, I3.congr (P4 83 (by omega) (by omega) (by omega) (by omega)), P3⟩, ?_⟩
        rw [tlR_0] at P3
        have := P3.2.2.1 o (by omega)
        rw [this, eY]
        simp only [tl0, Nat.zero_add]
        rfl
      have rB : ∀ j (g0 g : FN), g0 103 7 = nI k → g0 103 8 = nI o → g0 103 9 = 0 → PL g0 m TRS ro wd hh Q j g → g 103 9 = b2i (decide (0 < Y j)) := fun j g0 g h7 h8 h9 hP => by
        have := hP.2.2.2.2.2.2.2 false (by rw [h9]; rfl)
        rw [this, h7, h8, Bool.false_or]
        congr 1
        rw [Bool.eq_iff_iff, orB_iff, decide_eq_true_iff, eY]
        simp only
        rw [csI_pos]
        exact ⟨fun ⟨i, hi, h2⟩ => ⟨i, hi, (hits hk m8 ho (fun c hc => (hS.2.2.1 c hc).2) i).mp h2⟩, fun ⟨i, hi, h2⟩ => ⟨i, hi, (hits hk m8 ho (fun c hc => (hS.2.2.1 c hc).2) i).mpr h2⟩⟩
      have rs : ∀ j (g0 g : FN), j < 72 → HSt (g0 104) m TRS ro wd → PL g0 m TRS ro wd hh Q j g → ∃ g', WS_X7_reaches_1 [.ref 103, .int (nI k), .int (nI o), .int (nI j)] (memOf g) = some (.inl ([.ref 103, .int (nI k), .int (nI o), .int (nI (j + 1))], memOf g')) ∧ PL g0 m TRS ro wd hh Q (j + 1) g' := fun j g0 g hj hS0 hP => by
        obtain ⟨g', H1, H2⟩ := X7_hour g0 g hS0 hP hAl (by omega)
        refine ⟨g', ?_, H2⟩
        simp [WS_X7_reaches_1, m_den, l0, Value.category, s_seq, s_if, s_st, s_ret, s_retz, s_retv, s_skip, s_sc, s_inc, s_call, e_c, e_li, e_lr, e_lj, e_un, e_bin, e_if, e_b, b_not, b_and, b_or, b_of, e_call, a_recv, a_snoc, a_nil, prI, prJ, prR, e_gi, e_gr, e_ai, e_ar, s_as, s_aop, s_pf, s_pfz, s_fop, l_set, l_ok, e_div, e_rem, e_len, s_tab, rc_103, H1, nI_next]
      have rb : ∀ j (g0 g : FN), j < 72 → ¬ 0 < Y j → g0 103 7 = nI k → g0 103 8 = nI o → g0 103 9 = 0 → PL g0 m TRS ro wd hh Q j g → WB_X7_reaches_1 [.ref 103, .int (nI k), .int (nI o), .int (nI j)] (memOf g) = some (true, memOf g) := fun j g0 g hj hz h7 h8 h9 hP => by
        have e : nI j < (72 : Int32) := lt_lit (n := 72) hj (by omega)
        have z := rB j g0 g h7 h8 h9 hP
        rw [decide_eq_false hz] at z
        have z' : g 103 9 = 0 := z
        simp [WB_X7_reaches_1, m_den, l0, Value.category, s_seq, s_if, s_st, s_ret, s_retz, s_retv, s_skip, s_sc, s_inc, s_call, e_c, e_li, e_lr, e_lj, e_un, e_bin, e_if, e_b, b_not, b_and, b_or, b_of, e_call, a_recv, a_snoc, a_nil, prI, prJ, prR, e_gi, e_gr, e_ai, e_ar, s_as, s_aop, s_pf, s_pfz, s_fop, l_set, l_ok, e_div, e_rem, e_len, s_tab, e, g_103_9, z']
      -- what the reference sets up
      have SU : ∀ g1 : FN, ∃ p1 p0, D_X7_puts [.ref 103] (memOf g1) = some (.null, memOf p0) ∧ p1 = row p0 103 (upd (upd (upd (p0 103) 7 (nI k)) 8 (nI o)) 9 0) ∧ (∀ x, x ≠ 106 → x ≠ 103 → p1 x = g1 x) ∧ (∀ y, y < 735 → p1 106 y = g1 104 y) ∧ (∀ y, y < 7 ∨ 9 < y → p1 103 y = g1 103 y) ∧ p1 103 7 = nI k ∧ p1 103 8 = nI o ∧ p1 103 9 = 0 := fun g1 => by
        obtain ⟨p0, V1, V2, V3⟩ := X7_puts g1
        refine ⟨_, p0, V1, rfl, fun x h1 h2 => by rw [row_ne _ _ h2, V2 x h1], fun y hy => by rw [row_ne _ _ (by omega)]; exact V3 y hy, fun y hy => ?_, ?_, ?_, ?_⟩
        · rw [row_self, upd_ne _ _ (by omega), upd_ne _ _ (by omega), upd_ne _ _ (by omega), V2 103 (by omega)]
        · rw [row_self, upd_ne _ _ (by omega), upd_ne _ _ (by omega), upd_self]
        · rw [row_self, upd_ne _ _ (by omega), upd_self]
        · rw [row_self, upd_self]
      rcases first_ex (fun j => 0 < Y (j + 1)) 71 with ⟨K, hK, hZ, hlt⟩ | hno
      · have Y0 : ¬ 0 < Y 0 := by rw [eY]; simp [csI]
        have hlt' : ∀ j, j < K + 1 → ¬ 0 < Y j := fun j hj => by
          cases j with
          | zero => exact Y0
          | succ j => exact hlt j (by omega)
        obtain ⟨v, g1, C1, C2, C3⟩ := while_rret (b := WB_X6_reaches_1) (s := WS_X6_reaches_1) (fun j => [.ref 0, .int (nI k), .int (nI o), .int (nI j)]) I (fun v g => v = .int (nI (K + 1)) ∧ ∀ x, ¬ (82 ≤ x ∧ x ≤ 89) → g x = f x) K (by unfold FU; omega) (fun j g hj hI => cb j g (by omega) hI) (fun j g hj hI => by
          obtain ⟨g', S1, S2, S3⟩ := cs j g (by omega) hI
          refine ⟨g', ?_, S2⟩
          have z : ¬ 0 < nI (Y (j + 1)) := fun e => hlt j hj ((nI_lt_iff (a := 0) (by omega) (hbig _ (by omega))).mp e)
          simp [WS_X6_reaches_1, m_den, l0, Value.category, s_seq, s_if, s_st, s_ret, s_retz, s_retv, s_skip, s_sc, s_inc, s_call, e_c, e_li, e_lr, e_lj, e_un, e_bin, e_if, e_b, b_not, b_and, b_or, b_of, e_call, a_recv, a_snoc, a_nil, prI, prJ, prR, e_gi, e_gr, e_ai, e_ar, s_as, s_aop, s_pf, s_pfz, s_fop, l_set, l_ok, e_div, e_rem, e_len, s_tab, g_0_6, g_0_0, g_0_7, rc_1, S1, g_86_2, rd_88 g' ho, S3, z, nI_next]) (fun g hI => by
          obtain ⟨g', S1, S2, S3⟩ := cs K g (by omega) hI
          refine ⟨.int (nI (K + 1)), g', ?_, rfl, S2.1⟩
          have z : 0 < nI (Y (K + 1)) := (nI_lt_iff (a := 0) (by omega) (hbig _ (by omega))).mpr hZ
          simp [WS_X6_reaches_1, m_den, l0, Value.category, s_seq, s_if, s_st, s_ret, s_retz, s_retv, s_skip, s_sc, s_inc, s_call, e_c, e_li, e_lr, e_lj, e_un, e_bin, e_if, e_b, b_not, b_and, b_or, b_of, e_call, a_recv, a_snoc, a_nil, prI, prJ, prR, e_gi, e_gr, e_ai, e_ar, s_as, s_aop, s_pf, s_pfz, s_fop, l_set, l_ok, e_div, e_rem, e_len, s_tab, g_0_6, g_0_0, g_0_7, rc_1, S1, g_86_2, rd_88 g' ho, S3, z, nI_next]) I0
        subst C2
        have e104 := C3 104 (by omega)
        obtain ⟨p1, p0, V1, ep1, V2, V3, V4, V7, V8, V9⟩ := SU g1
        have p104 : p1 104 = f 104 := by rw [V2 104 (by omega) (by omega), e104]
        have hS1 : HSt (p1 104) m TRS ro wd := by rw [p104]; exact hS
        obtain ⟨p2, R1, R2⟩ := while_rel (b := WB_X7_reaches_1) (s := WS_X7_reaches_1) (fun j => [.ref 103, .int (nI k), .int (nI o), .int (nI j)]) (fun j g => PL p1 m TRS ro wd hh Q j g) (K + 1) (by unfold FU; omega) (fun j g hj hI => rb j p1 g (by omega) (hlt' j hj) V7 V8 V9 hI) (fun j g hj hI => rs j p1 g (by omega) hS1 hI) (fun g hI => by
          have z := rB (K + 1) p1 g V7 V8 V9 hI
          rw [decide_eq_true hZ] at z
          have z' : g 103 9 = 1 := z
          by_cases c : nI (K + 1) < (72 : Int32)
          · simp [WB_X7_reaches_1, m_den, l0, Value.category, s_seq, s_if, s_st, s_ret, s_retz, s_retv, s_skip, s_sc, s_inc, s_call, e_c, e_li, e_lr, e_lj, e_un, e_bin, e_if, e_b, b_not, b_and, b_or, b_of, e_call, a_recv, a_snoc, a_nil, prI, prJ, prR, e_gi, e_gr, e_ai, e_ar, s_as, s_aop, s_pf, s_pfz, s_fop, l_set, l_ok, e_div, e_rem, e_len, s_tab, c, g_103_9, z']
          · simp [WB_X7_reaches_1, m_den, l0, Value.category, s_seq, s_if, s_st, s_ret, s_retz, s_retv, s_skip, s_sc, s_inc, s_call, e_c, e_li, e_lr, e_lj, e_un, e_bin, e_if, e_b, b_not, b_and, b_or, b_of, e_call, a_recv, a_snoc, a_nil, prI, prJ, prR, e_gi, e_gr, e_ai, e_ar, s_as, s_aop, s_pf, s_pfz, s_fop, l_set, l_ok, e_div, e_rem, e_len, s_tab, c]) (f := p1) (PL.zero (by rw [p104]; exact b2) (fun k hk => by rw [p104]; exact (sp k hk).1))
        obtain ⟨p3, B1, B2, B3⟩ := pbk_of R2 m8 (s0 := f 104) (fun y hy => by rw [V3 y hy, e104]) (fun y hy => by rw [p104])
        have pz := rB (K + 1) p1 p2 V7 V8 V9 R2
        rw [decide_eq_true hZ] at pz
        have pz' : p3 103 9 = 1 := by rw [B3 103 (by omega)]; exact pz
        obtain ⟨P1, P2, P3, P4, P5, P6, P7, P8⟩ := R2
        refine ⟨nI (K + 1), g1, p3, ?_, ?_, ?_⟩
        · have C1' : W_X6_reaches_1 [.ref 0, .int (nI k), .int (nI o), .int 0] (memOf f2) = some (.inr (.int (nI (K + 1)), memOf g1)) := C1
          simp [D_X6_reaches, S_X6_reaches, m_den, l0, Value.category, s_seq, s_if, s_st, s_ret, s_retz, s_retv, s_skip, s_sc, s_inc, s_call, e_c, e_li, e_lr, e_lj, e_un, e_bin, e_if, e_b, b_not, b_and, b_or, b_of, e_call, a_recv, a_snoc, a_nil, prI, prJ, prR, e_gi, e_gr, e_ai, e_ar, s_as, s_aop, s_pf, s_pfz, s_fop, l_set, l_ok, e_div, e_rem, e_len, s_tab, X6_isChimney, X6_isOwner, em, a1, a2, a3, a4, rc_0, X6_hasHours, b1, hq, hN, g_0_7, rc_86, T1, g_0_6, g_0_0, g_1_7, rr_6 _ k8, rc_82, U1, C1']
        · have R1' : W_X7_reaches_1 [.ref 103, .int (nI k), .int (nI o), .int 0] (memOf p1) = some (.inl ([.ref 103, .int (nI k), .int (nI o), .int (nI (K + 1))], memOf p2)) := R1
          have g4 : g1 104 1 = nI m := by rw [e104]; exact em'
          have g5 : g1 104 0 = nI hh := by rw [e104]; exact b2
          rw [ep1] at R1'
          simp [D_X7_reaches, S_X7_reaches, m_den, l0, Value.category, s_seq, s_if, s_st, s_ret, s_retz, s_retv, s_skip, s_sc, s_inc, s_call, e_c, e_li, e_lr, e_lj, e_un, e_bin, e_if, e_b, b_not, b_and, b_or, b_of, e_call, a_recv, a_snoc, a_nil, prI, prJ, prR, e_gi, e_gr, e_ai, e_ar, s_as, s_aop, s_pf, s_pfz, s_fop, l_set, l_ok, e_div, e_rem, e_len, s_tab, X7_isChimney, X7_isOwner, g4, a1, a2, a3, a4, rc_103, X7_isTooFar, g5, hq, hN, V1, p_103_7, p_103_8, p_103_9, row_row, row_self, R1', B1, g_103_9, pz']
        · refine h.trial (fun x c1 c2 c3 c4 c5 c6 c7 => ?_) (fun y hy => ?_)
          · by_cases c : x = 104
            · subst c; exact B2
            · rw [B3 x c, P1 x c2 c c4 c5, V2 x c3 c2, C3 x (by omega)]
          · rw [B3 103 (by omega), P2 y (by omega), V4 y (by omega), C3 103 (by omega)]
      · have hno' : ∀ j, j ≤ 72 → ¬ 0 < Y j := fun j hj => by
          cases j with
          | zero => rw [eY]; simp [csI]
          | succ j => exact hno j (by omega)
        obtain ⟨g0, C1, C2⟩ := while_rel (b := WB_X6_reaches_1) (s := WS_X6_reaches_1) (fun j => [.ref 0, .int (nI k), .int (nI o), .int (nI j)]) I 72 (by unfold FU; omega) (fun j g hj hI => cb j g (by omega) hI) (fun j g hj hI => by
          obtain ⟨g', S1, S2, S3⟩ := cs j g (by omega) hI
          refine ⟨g', ?_, S2⟩
          have z : ¬ 0 < nI (Y (j + 1)) := fun e => hno j (by omega) ((nI_lt_iff (a := 0) (by omega) (hbig _ (by omega))).mp e)
          simp [WS_X6_reaches_1, m_den, l0, Value.category, s_seq, s_if, s_st, s_ret, s_retz, s_retv, s_skip, s_sc, s_inc, s_call, e_c, e_li, e_lr, e_lj, e_un, e_bin, e_if, e_b, b_not, b_and, b_or, b_of, e_call, a_recv, a_snoc, a_nil, prI, prJ, prR, e_gi, e_gr, e_ai, e_ar, s_as, s_aop, s_pf, s_pfz, s_fop, l_set, l_ok, e_div, e_rem, e_len, s_tab, g_0_6, g_0_0, g_0_7, rc_1, S1, g_86_2, rd_88 g' ho, S3, z, nI_next]) (fun g hI => by
          have e : ¬ nI 72 < (72 : Int32) := nlt_lit (n := 72) (by omega)
          simp [WB_X6_reaches_1, m_den, l0, Value.category, s_seq, s_if, s_st, s_ret, s_retz, s_retv, s_skip, s_sc, s_inc, s_call, e_c, e_li, e_lr, e_lj, e_un, e_bin, e_if, e_b, b_not, b_and, b_or, b_of, e_call, a_recv, a_snoc, a_nil, prI, prJ, prR, e_gi, e_gr, e_ai, e_ar, s_as, s_aop, s_pf, s_pfz, s_fop, l_set, l_ok, e_div, e_rem, e_len, s_tab, e]) I0
        obtain ⟨g1, hg1⟩ : ∃ g1, g1 = row g0 81 (upd (g0 81) 3 (g0 81 3 + 1)) := ⟨_, rfl⟩
        have fin := X6_fin_3 g0
        rw [← hg1] at fin
        have G1 : ∀ x, ¬ (82 ≤ x ∧ x ≤ 89) → x ≠ 81 → g1 x = f x := fun x h1 h2 => by rw [hg1, row_ne _ _ h2]; exact C2.1 x h1
        have e104 := G1 104 (by omega) (by omega)
        obtain ⟨p1, p0, V1, ep1, V2, V3, V4, V7, V8, V9⟩ := SU g1
        have p104 : p1 104 = f 104 := by rw [V2 104 (by omega) (by omega), e104]
        have hS1 : HSt (p1 104) m TRS ro wd := by rw [p104]; exact hS
        obtain ⟨p2, R1, R2⟩ := while_rel (b := WB_X7_reaches_1) (s := WS_X7_reaches_1) (fun j => [.ref 103, .int (nI k), .int (nI o), .int (nI j)]) (fun j g => PL p1 m TRS ro wd hh Q j g) 72 (by unfold FU; omega) (fun j g hj hI => rb j p1 g hj (hno' j (by omega)) V7 V8 V9 hI) (fun j g hj hI => rs j p1 g hj hS1 hI) (fun g hI => by
          have e : ¬ nI 72 < (72 : Int32) := nlt_lit (n := 72) (by omega)
          simp [WB_X7_reaches_1, m_den, l0, Value.category, s_seq, s_if, s_st, s_ret, s_retz, s_retv, s_skip, s_sc, s_inc, s_call, e_c, e_li, e_lr, e_lj, e_un, e_bin, e_if, e_b, b_not, b_and, b_or, b_of, e_call, a_recv, a_snoc, a_nil, prI, prJ, prR, e_gi, e_gr, e_ai, e_ar, s_as, s_aop, s_pf, s_pfz, s_fop, l_set, l_ok, e_div, e_rem, e_len, s_tab, e]) (f := p1) (PL.zero (by rw [p104]; exact b2) (fun k hk => by rw [p104]; exact (sp k hk).1))
        obtain ⟨p3, B1, B2, B3⟩ := pbk_of R2 m8 (s0 := f 104) (fun y hy => by rw [V3 y hy, e104]) (fun y hy => by rw [p104])
        have pz := rB 72 p1 p2 V7 V8 V9 R2
        rw [decide_eq_false (hno' 72 (by omega))] at pz
        have pz' : p3 103 9 = 0 := by rw [B3 103 (by omega)]; exact pz
        obtain ⟨P1, P2, P3, P4, P5, P6, P7, P8⟩ := R2
        have p107 : p3 107 = f 107 := by rw [B3 107 (by omega), P1 107 (by omega) (by omega) (by omega) (by omega), V2 107 (by omega) (by omega), G1 107 (by omega) (by omega)]
        refine ⟨-1000004, g1, row p3 107 (upd (p3 107) 3 (p3 107 3 + 1)), ?_, ?_, ?_⟩
        · have C1' : W_X6_reaches_1 [.ref 0, .int (nI k), .int (nI o), .int 0] (memOf f2) = some (.inl ([.ref 0, .int (nI k), .int (nI o), .int (nI 72)], memOf g0)) := C1
          simp [D_X6_reaches, S_X6_reaches, m_den, l0, Value.category, s_seq, s_if, s_st, s_ret, s_retz, s_retv, s_skip, s_sc, s_inc, s_call, e_c, e_li, e_lr, e_lj, e_un, e_bin, e_if, e_b, b_not, b_and, b_or, b_of, e_call, a_recv, a_snoc, a_nil, prI, prJ, prR, e_gi, e_gr, e_ai, e_ar, s_as, s_aop, s_pf, s_pfz, s_fop, l_set, l_ok, e_div, e_rem, e_len, s_tab, X6_isChimney, X6_isOwner, em, a1, a2, a3, a4, rc_0, X6_hasHours, b1, hq, hN, g_0_7, rc_86, T1, g_0_6, g_0_0, g_1_7, rr_6 _ k8, rc_82, U1, C1', fin]
        · have R1' : W_X7_reaches_1 [.ref 103, .int (nI k), .int (nI o), .int 0] (memOf p1) = some (.inl ([.ref 103, .int (nI k), .int (nI o), .int (nI 72)], memOf p2)) := R1
          have g4 : g1 104 1 = nI m := by rw [e104]; exact em'
          have g5 : g1 104 0 = nI hh := by rw [e104]; exact b2
          rw [ep1] at R1'
          simp [D_X7_reaches, S_X7_reaches, m_den, l0, Value.category, s_seq, s_if, s_st, s_ret, s_retz, s_retv, s_skip, s_sc, s_inc, s_call, e_c, e_li, e_lr, e_lj, e_un, e_bin, e_if, e_b, b_not, b_and, b_or, b_of, e_call, a_recv, a_snoc, a_nil, prI, prJ, prR, e_gi, e_gr, e_ai, e_ar, s_as, s_aop, s_pf, s_pfz, s_fop, l_set, l_ok, e_div, e_rem, e_len, s_tab, X7_isChimney, X7_isOwner, g4, a1, a2, a3, a4, rc_103, X7_isTooFar, g5, hq, hN, V1, p_103_7, p_103_8, p_103_9, row_row, row_self, R1', B1, g_103_9, pz', X7_fin_3]
        · refine (h.find 3).trial (fun x c1 c2 c3 c4 c5 c6 c7 => ?_) (fun y hy => ?_)
          · unfold fnd
            by_cases c7 : x = 107
            · subst c7; rw [row_self, row_self, p107]
            · rw [row_ne _ _ c7, row_ne _ _ c7]
              by_cases c : x = 104
              · subst c; rw [B2, row_ne _ _ (by omega)]
              · rw [B3 x c, P1 x c2 c c4 c5, V2 x c3 c2, hg1]
                by_cases c8 : x = 81
                · subst c8; rw [row_self, row_self, C2.1 81 (by omega)]
                · rw [row_ne _ _ c8, row_ne _ _ c8, C2.1 x (by omega)]
          · unfold fnd
            rw [row_ne _ _ (by omega), row_ne _ _ (by omega), row_ne _ _ (by omega), B3 103 (by omega), P2 y (by omega), V4 y (by omega), G1 103 (by omega) (by omega)]
    · refine agr_find (j := 4) (v := -1000005) h ?_ (fun g hg => ?_)
      · simp [D_X6_reaches, S_X6_reaches, m_den, l0, Value.category, s_seq, s_if, s_st, s_ret, s_retz, s_retv, s_skip, s_sc, s_inc, s_call, e_c, e_li, e_lr, e_lj, e_un, e_bin, e_if, e_b, b_not, b_and, b_or, b_of, e_call, a_recv, a_snoc, a_nil, prI, prJ, prR, e_gi, e_gr, e_ai, e_ar, s_as, s_aop, s_pf, s_pfz, s_fop, l_set, l_ok, e_div, e_rem, e_len, s_tab, X6_isChimney, X6_isOwner, em, a1, a2, a3, a4, rc_0, X6_hasHours, b1, hq, hN, X6_fin_4]
      · have b2' : g 104 0 = nI hh := by rw [hg.1]; exact b2
        have b3' : g 104 1 = nI m := by rw [hg.1]; exact em'
        simp [D_X7_reaches, S_X7_reaches, m_den, l0, Value.category, s_seq, s_if, s_st, s_ret, s_retz, s_retv, s_skip, s_sc, s_inc, s_call, e_c, e_li, e_lr, e_lj, e_un, e_bin, e_if, e_b, b_not, b_and, b_or, b_of, e_call, a_recv, a_snoc, a_nil, prI, prJ, prR, e_gi, e_gr, e_ai, e_ar, s_as, s_aop, s_pf, s_pfz, s_fop, l_set, l_ok, e_div, e_rem, e_len, s_tab, X7_isChimney, X7_isOwner, b3', a1, a2, a3, a4, rc_103, X7_isTooFar, b2', hq, hN, X7_fin_4]
  · exact agr_find h (X6_reaches_no0 f (by rw [em]; exact hc)) (fun g hg => X7_reaches_no0 g (by rw [hg.1, em']; exact hc))
