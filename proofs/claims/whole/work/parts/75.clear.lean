/-! clear -/
theorem first_ex (Z : Nat → Prop) (N : Nat) : (∃ K, K ≤ N ∧ Z K ∧ ∀ i, i < K → ¬ Z i) ∨ ∀ i, i ≤ N → ¬ Z i := by
  induction N with
  | zero =>
    by_cases c : Z 0
    · exact Or.inl ⟨0, Nat.le_refl _, c, fun i hi => absurd hi (by omega)⟩
    · exact Or.inr (fun i hi => by have : i = 0 := by omega
                                   subst this; exact c)
  | succ N ih =>
    rcases ih with ⟨K, h1, h2, h3⟩ | h
    · exact Or.inl ⟨K, by omega, h2, h3⟩
    · by_cases c : Z (N + 1)
      · exact Or.inl ⟨N + 1, Nat.le_refl _, c, fun i hi => h i (by omega)⟩
      · exact Or.inr (fun i hi => by
          by_cases e : i = N + 1
          · subst e; exact c
          · exact h i (by omega))
theorem while_rret {b : DE Bool} {s : SD} (L : Nat → List Value) (I : Nat → FN → Prop) (R : Value → FN → Prop) (K : Nat) (hN : K < FU) (hb : ∀ i f, i ≤ K → I i f → b (L i) (memOf f) = some (true, memOf f)) (hs : ∀ i f, i < K → I i f → ∃ g, s (L i) (memOf f) = some (.inl (L (i + 1), memOf g)) ∧ I (i + 1) g) (he : ∀ f, I K f → ∃ v g, s (L K) (memOf f) = some (.inr (v, memOf g)) ∧ R v g) {f : FN} (h0 : I 0 f) : ∃ v g, s_while b s FU (L 0) (memOf f) = some (.inr (v, memOf g)) ∧ R v g := by
  have key : ∀ k i n f, i + k = K → k < n → I i f → ∃ v g, s_while b s n (L i) (memOf f) = some (.inr (v, memOf g)) ∧ R v g := by
    intro k
    induction k with
    | zero =>
      intro i n f h1 h2 h3
      have e : i = K := by omega
      subst e
      obtain ⟨m, rfl⟩ : ∃ m, n = m + 1 := ⟨n - 1, by omega⟩
      obtain ⟨v, g, h4, h5⟩ := he f h3
      exact ⟨v, g, while_ret (hb i f (Nat.le_refl _) h3) h4, h5⟩
    | succ k ih =>
      intro i n f h1 h2 h3
      obtain ⟨m, rfl⟩ : ∃ m, n = m + 1 := ⟨n - 1, by omega⟩
      obtain ⟨g, h4, h5⟩ := hs i f (by omega) h3
      rw [while_step (hb i f (by omega) h3) h4]
      exact ih (i + 1) m g (by omega) (by omega) h5
  exact key K 0 FU f (by omega) hN h0
theorem csI_pos {n : Nat} {g : Nat → Nat} : 0 < csI n g ↔ ∃ i, i < n ∧ 0 < g i := by
  induction n with
  | zero => exact ⟨fun h => absurd h (by simp [csI]), fun ⟨i, hi, _⟩ => absurd hi (by omega)⟩
  | succ n ih =>
    rw [csI_succ]
    constructor
    · intro h
      by_cases c : 0 < g n
      · exact ⟨n, by omega, c⟩
      · obtain ⟨i, hi, h2⟩ := ih.mp (by omega)
        exact ⟨i, by omega, h2⟩
    · rintro ⟨i, hi, h2⟩
      by_cases c : i = n
      · subst c; omega
      · have := ih.mpr ⟨i, by omega, h2⟩; omega
/-- the air over the town of one chimney behind j hours, on both sides -/
theorem TW.run_A {f : FN} {m : Nat} {TRS : Nat → Nat → Nat} {ro : Nat → Option Nat} {wd : Nat → Nat} {Q : Nat → SMK} {bo : Nat → Int} {h : Nat} (w : TW f m TRS ro wd Q bo h) {k : Nat} (hk : k < m) (j : Nat) : tot (rn TRS wd h Q j k) ≤ 203 * h + 203 * j := by
  obtain ⟨⟨b1, b2, b3, b4⟩, hS, sp, ro', wd', bk', tk, bn⟩ := w
  have hwd : WD wd := fun c hc => (hS.2.2.2 c hc).2
  have k2 : TRS k 2 < 36 := by have := (hS.2.1 k hk).2 2 (by omega); simp only [lim] at this; omega
  have a := run_tot (bb := bM (TRS k)) (h := h) hwd k2 (tk k hk).1 j
  have b := run_B (tr := TRS k) (wd := wd) (h := h) (fun c _ => bM_le (hS.2.1 k hk).2 c) (tk k hk).2 j
  unfold rn
  omega
theorem overN_m1 {x : Nat → Int32} {A : Nat → Nat} (h : ∀ c, c < 36 → x c = nI (A c)) : overN x (-1) = nI (csI 36 A) := by
  rw [← sumI_nI h]
  unfold overN
  rw [if_neg (by decide)]
theorem X6_clear_no0 (f : FN) {c : Int32} (h : ¬ (0 ≤ c ∧ c ≤ f 1 2 - 1)) : D_X6_clear [.ref 0, .int c] (memOf f) = some (.int (-1000001), memOf (row f 81 (upd (f 81) 0 (f 81 0 + 1)))) := by
  by_cases h1 : 0 ≤ c
  · have h2 : ¬ (c ≤ f 1 2 - 1) := fun q => h ⟨h1, q⟩
    simp [D_X6_clear, S_X6_clear, m_den, l0, Value.category, s_seq, s_if, s_st, s_ret, s_retz, s_retv, s_skip, s_sc, s_inc, s_call, e_c, e_li, e_lr, e_lj, e_un, e_bin, e_if, e_b, b_not, b_and, b_or, b_of, e_call, a_recv, a_snoc, a_nil, prI, prJ, prR, e_gi, e_gr, e_ai, e_ar, s_as, s_aop, s_pf, s_pfz, s_fop, l_set, l_ok, e_div, e_rem, e_len, s_tab, X6_isChimney, rc_0, X6_fin_0, h1, h2]
  · simp [D_X6_clear, S_X6_clear, m_den, l0, Value.category, s_seq, s_if, s_st, s_ret, s_retz, s_retv, s_skip, s_sc, s_inc, s_call, e_c, e_li, e_lr, e_lj, e_un, e_bin, e_if, e_b, b_not, b_and, b_or, b_of, e_call, a_recv, a_snoc, a_nil, prI, prJ, prR, e_gi, e_gr, e_ai, e_ar, s_as, s_aop, s_pf, s_pfz, s_fop, l_set, l_ok, e_div, e_rem, e_len, s_tab, X6_isChimney, rc_0, X6_fin_0, h1]
theorem X7_clear_no0 (f : FN) {c : Int32} (h : ¬ (0 ≤ c ∧ c ≤ f 104 1 - 1)) : D_X7_clear [.ref 103, .int c] (memOf f) = some (.int (-1000001), memOf (row f 107 (upd (f 107) 0 (f 107 0 + 1)))) := by
  by_cases h1 : 0 ≤ c
  · have h2 : ¬ (c ≤ f 104 1 - 1) := fun q => h ⟨h1, q⟩
    simp [D_X7_clear, S_X7_clear, m_den, l0, Value.category, s_seq, s_if, s_st, s_ret, s_retz, s_retv, s_skip, s_sc, s_inc, s_call, e_c, e_li, e_lr, e_lj, e_un, e_bin, e_if, e_b, b_not, b_and, b_or, b_of, e_call, a_recv, a_snoc, a_nil, prI, prJ, prR, e_gi, e_gr, e_ai, e_ar, s_as, s_aop, s_pf, s_pfz, s_fop, l_set, l_ok, e_div, e_rem, e_len, s_tab, X7_isChimney, rc_103, X7_fin_0, h1, h2]
  · simp [D_X7_clear, S_X7_clear, m_den, l0, Value.category, s_seq, s_if, s_st, s_ret, s_retz, s_retv, s_skip, s_sc, s_inc, s_call, e_c, e_li, e_lr, e_lj, e_un, e_bin, e_if, e_b, b_not, b_and, b_or, b_of, e_call, a_recv, a_snoc, a_nil, prI, prJ, prR, e_gi, e_gr, e_ai, e_ar, s_as, s_aop, s_pf, s_pfz, s_fop, l_set, l_ok, e_div, e_rem, e_len, s_tab, X7_isChimney, rc_103, X7_fin_0, h1]
theorem agr_clear {f : FN} (h : REL f) (x : Int32) : AGR D_X6_clear D_X7_clear [.int x] f := by
  obtain ⟨⟨m, hT, hV⟩, -⟩ := id h
  obtain ⟨TRS, ro, wd, Q, bo, hh, w⟩ := TW.ex hT hV
  obtain ⟨⟨b1, b2, b3, b4⟩, hS, sp, ro', wd', bk', tk, bn⟩ := id w
  have em : f 1 2 = nI m := b4
  have em' : f 104 1 = nI m := hS.1.1
  have m8 := hS.1.2
  by_cases hc : 0 ≤ x ∧ x ≤ nI m - 1
  · obtain ⟨k, hk, rfl⟩ := chi_ex hc m8
    obtain ⟨a1, a2⟩ := hc
    have hAl := w.A_le
    have k8 : k < 8 := by omega
    have hq : (nI hh + 72 ≤ 9999) = (hh + 72 ≤ 9999) := hor (h := hh) (n := 72) b3 (by omega)
    by_cases hN : hh + 72 ≤ 9999
    · obtain ⟨f1, T1, T2, T3⟩ := X3_begin f
      have w1 := w.congr (g := f1) (fun j hj => T3 j (by omega)) (T3 104 (by omega))
      obtain ⟨f2, U1, U2, U3, U4⟩ := trial_take f1 w1.2.2.1 hk m8
      have F2 : ∀ x, ¬ (82 ≤ x ∧ x ≤ 89) → f2 x = f x := fun x hx => by rw [U4 x (by omega), T3 x (by omega)]
      obtain ⟨Z, eZ⟩ : ∃ Z : Nat → Prop, Z = fun j => csI 36 (rn TRS wd hh Q j k).1 = 0 := ⟨_, rfl⟩
      have hbig : ∀ j, j ≤ 73 → csI 36 (rn TRS wd hh Q j k).1 < 2 ^ 31 := fun j hj => by
        have := w.run_A hk j
        unfold tot at this
        omega
      -- the class's step
      let I : Nat → FN → Prop := fun j g => (∀ x, ¬ (82 ≤ x ∧ x ≤ 89) → g x = f x) ∧ HC g 82 (rn TRS wd hh Q j k) ∧ HTr g 82 (TRS k) ∧ ∃ t, HT g t
      have I0 : I 0 f2 := ⟨F2, U2, U3, tl0, T2.congr (fun j h1 h2 => U4 j (by omega))⟩
      have po : ∀ j g, I j g → D_X6_partsOver [.ref 84, .int (-1)] (memOf g) = some (.int (nI (csI 36 (rn TRS wd hh Q j k).1)), memOf g) := fun j g hI => by
        rw [X6_partsOver g sh_84 (by decide), overN_m1 hI.2.1.1]
      have cb : ∀ j g, j ≤ 72 → I j g → WB_X6_clear_1 [.ref 0, .int (nI k), .int (nI j)] (memOf g) = some (true, memOf g) := fun j g hj _ => by
        have e : nI j ≤ (72 : Int32) := le_lit (n := 72) hj (by omega)
        simp [WB_X6_clear_1, m_den, l0, Value.category, s_seq, s_if, s_st, s_ret, s_retz, s_retv, s_skip, s_sc, s_inc, s_call, e_c, e_li, e_lr, e_lj, e_un, e_bin, e_if, e_b, b_not, b_and, b_or, b_of, e_call, a_recv, a_snoc, a_nil, prI, prJ, prR, e_gi, e_gr, e_ai, e_ar, s_as, s_aop, s_pf, s_pfz, s_fop, l_set, l_ok, e_div, e_rem, e_len, s_tab, e]
      have cs : ∀ j g, j ≤ 72 → ¬ Z j → I j g → ∃ g', WS_X6_clear_1 [.ref 0, .int (nI k), .int (nI j)] (memOf g) = some (.inl ([.ref 0, .int (nI k), .int (nI (j + 1))], memOf g')) ∧ I (j + 1) g' := fun j g hj hz hI => by
        have p := po j g hI
        obtain ⟨I1, I2, I3, t, I4⟩ := hI
        have wg := w.congr (g := g) (fun j hj => I1 j (by omega)) (I1 104 (by omega))
        obtain ⟨g2, P1, P2, P3, P4⟩ := X5_playHours g (n0 := j) (n := 1) (q := Q k) isCh_82 (by omega) wg.1.1 I2 I3 (hS.2.1 k hk).2 wg.2.2.2.1 wg.2.2.2.2.1 I4 (hAl k hk) (by omega)
        refine ⟨g2, ?_, fun x hx => by rw [P4 x (by omega) (by omega) (by omega) (by omega)]; exact I1 x hx, P2, I3.congr (P4 83 (by omega) (by omega) (by omega) (by omega)), _, P3⟩
        have z : ¬ nI (csI 36 (rn TRS wd hh Q j k).1) = 0 := fun e => hz (by
          rw [eZ]; exact (nI_inj (b := 0) (hbig j (by omega)) (by omega)).mp e)
        have o1 : nI 1 = 1 := rfl
        rw [o1] at P1
        simp [WS_X6_clear_1, m_den, l0, Value.category, s_seq, s_if, s_st, s_ret, s_retz, s_retv, s_skip, s_sc, s_inc, s_call, e_c, e_li, e_lr, e_lj, e_un, e_bin, e_if, e_b, b_not, b_and, b_or, b_of, e_call, a_recv, a_snoc, a_nil, prI, prJ, prR, e_gi, e_gr, e_ai, e_ar, s_as, s_aop, s_pf, s_pfz, s_fop, l_set, l_ok, e_div, e_rem, e_len, s_tab, g_0_6, g_82_1, p, z, g_0_0, g_0_7, rc_1, P1, nI_next]
      -- the reference's step
      have rB : ∀ j (g0 g : FN), j ≤ 72 → HSt (g0 104) m TRS ro wd → PL g0 m TRS ro wd hh Q j g → D_X7_sums [.ref 103, .int 125, .int (nI k), .int (-1)] (memOf g) = some (.int (nI (csI 36 (rn TRS wd hh Q j k).1)), memOf g) := fun j g0 g hj hS0 hP => by
        have := X7_sums g (w := 125) (by omega) m8 (hP.st hS0).1.1 (nI k) (-1)
        rw [sums_one g 125 hk m8 (by decide), overN_m1 (hP.2.2.2.2.1 k hk).1] at this
        exact this
      have rb : ∀ j (g0 g : FN), j < 72 → ¬ Z j → HSt (g0 104) m TRS ro wd → PL g0 m TRS ro wd hh Q j g → WB_X7_clear_1 [.ref 103, .int (nI k), .int (nI j)] (memOf g) = some (true, memOf g) := fun j g0 g hj hz hS0 hP => by
        have e : nI j < (72 : Int32) := lt_lit (n := 72) hj (by omega)
        have p := rB j g0 g (by omega) hS0 hP
        have z : 0 < nI (csI 36 (rn TRS wd hh Q j k).1) := (nI_lt_iff (a := 0) (by omega) (hbig j (by omega))).mpr (by
          rw [eZ] at hz
          simp only at hz
          omega)
        simp [WB_X7_clear_1, m_den, l0, Value.category, s_seq, s_if, s_st, s_ret, s_retz, s_retv, s_skip, s_sc, s_inc, s_call, e_c, e_li, e_lr, e_lj, e_un, e_bin, e_if, e_b, b_not, b_and, b_or, b_of, e_call, a_recv, a_snoc, a_nil, prI, prJ, prR, e_gi, e_gr, e_ai, e_ar, s_as, s_aop, s_pf, s_pfz, s_fop, l_set, l_ok, e_div, e_rem, e_len, s_tab, e, rc_103, p, z]
      have rs : ∀ j (g0 g : FN), j < 72 → HSt (g0 104) m TRS ro wd → PL g0 m TRS ro wd hh Q j g → ∃ g', WS_X7_clear_1 [.ref 103, .int (nI k), .int (nI j)] (memOf g) = some (.inl ([.ref 103, .int (nI k), .int (nI (j + 1))], memOf g')) ∧ PL g0 m TRS ro wd hh Q (j + 1) g' := fun j g0 g hj hS0 hP => by
        obtain ⟨g', H1, H2⟩ := X7_hour g0 g hS0 hP hAl (by omega)
        refine ⟨g', ?_, H2⟩
        simp [WS_X7_clear_1, m_den, l0, Value.category, s_seq, s_if, s_st, s_ret, s_retz, s_retv, s_skip, s_sc, s_inc, s_call, e_c, e_li, e_lr, e_lj, e_un, e_bin, e_if, e_b, b_not, b_and, b_or, b_of, e_call, a_recv, a_snoc, a_nil, prI, prJ, prR, e_gi, e_gr, e_ai, e_ar, s_as, s_aop, s_pf, s_pfz, s_fop, l_set, l_ok, e_div, e_rem, e_len, s_tab, rc_103, H1, nI_next]
      rcases first_ex Z 72 with ⟨K, hK, hZ, hlt⟩ | hno
      · obtain ⟨v, g1, C1, C2, C3⟩ := while_rret (b := WB_X6_clear_1) (s := WS_X6_clear_1) (fun j => [.ref 0, .int (nI k), .int (nI j)]) I (fun v g => v = .int (nI K) ∧ ∀ x, ¬ (82 ≤ x ∧ x ≤ 89) → g x = f x) K (by unfold FU; omega) (fun j g hj hI => cb j g (by omega) hI) (fun j g hj hI => cs j g (by omega) (hlt j hj) hI) (fun g hI => ⟨.int (nI K), g, by
          have p := po K g hI
          have z : nI (csI 36 (rn TRS wd hh Q K k).1) = 0 := by
            rw [eZ] at hZ
            rw [hZ]; rfl
          rw [z] at p
          simp [WS_X6_clear_1, m_den, l0, Value.category, s_seq, s_if, s_st, s_ret, s_retz, s_retv, s_skip, s_sc, s_inc, s_call, e_c, e_li, e_lr, e_lj, e_un, e_bin, e_if, e_b, b_not, b_and, b_or, b_of, e_call, a_recv, a_snoc, a_nil, prI, prJ, prR, e_gi, e_gr, e_ai, e_ar, s_as, s_aop, s_pf, s_pfz, s_fop, l_set, l_ok, e_div, e_rem, e_len, s_tab, g_0_6, g_82_1, p], rfl, hI.1⟩) I0
        subst C2
        have e104 := C3 104 (by omega)
        obtain ⟨p1, V1, V2, V3⟩ := X7_puts g1
        have p104 : p1 104 = f 104 := by rw [V2 104 (by omega), e104]
        have hS1 : HSt (p1 104) m TRS ro wd := by rw [p104]; exact hS
        obtain ⟨p2, R1, R2⟩ := while_rel (b := WB_X7_clear_1) (s := WS_X7_clear_1) (fun j => [.ref 103, .int (nI k), .int (nI j)]) (fun j g => PL p1 m TRS ro wd hh Q j g) K (by unfold FU; omega) (fun j g hj hI => rb j p1 g (by omega) (hlt j hj) hS1 hI) (fun j g hj hI => rs j p1 g (by omega) hS1 hI) (fun g hI => by
          have p := rB K p1 g hK hS1 hI
          have z : nI (csI 36 (rn TRS wd hh Q K k).1) = 0 := by
            rw [eZ] at hZ
            rw [hZ]; rfl
          rw [z] at p
          by_cases c : nI K < (72 : Int32)
          · simp [WB_X7_clear_1, m_den, l0, Value.category, s_seq, s_if, s_st, s_ret, s_retz, s_retv, s_skip, s_sc, s_inc, s_call, e_c, e_li, e_lr, e_lj, e_un, e_bin, e_if, e_b, b_not, b_and, b_or, b_of, e_call, a_recv, a_snoc, a_nil, prI, prJ, prR, e_gi, e_gr, e_ai, e_ar, s_as, s_aop, s_pf, s_pfz, s_fop, l_set, l_ok, e_div, e_rem, e_len, s_tab, c, rc_103, p]
          · simp [WB_X7_clear_1, m_den, l0, Value.category, s_seq, s_if, s_st, s_ret, s_retz, s_retv, s_skip, s_sc, s_inc, s_call, e_c, e_li, e_lr, e_lj, e_un, e_bin, e_if, e_b, b_not, b_and, b_or, b_of, e_call, a_recv, a_snoc, a_nil, prI, prJ, prR, e_gi, e_gr, e_ai, e_ar, s_as, s_aop, s_pf, s_pfz, s_fop, l_set, l_ok, e_div, e_rem, e_len, s_tab, c]) (f := p1) (PL.zero (by rw [p104]; exact b2) (fun k hk => by rw [p104]; exact (sp k hk).1))
        obtain ⟨p3, B1, B2, B3⟩ := pbk_of R2 m8 (s0 := f 104) (fun y hy => by rw [V3 y hy, e104]) (fun y hy => by rw [p104])
        have pz := rB K p1 p2 hK hS1 R2
        obtain ⟨P1, P2, P3, P4, P5, P6, P7, P8⟩ := R2
        refine ⟨nI K, g1, p3, ?_, ?_, ?_⟩
        · have C1' : W_X6_clear_1 [.ref 0, .int (nI k), .int 0] (memOf f2) = some (.inr (.int (nI K), memOf g1)) := C1
          simp [D_X6_clear, S_X6_clear, m_den, l0, Value.category, s_seq, s_if, s_st, s_ret, s_retz, s_retv, s_skip, s_sc, s_inc, s_call, e_c, e_li, e_lr, e_lj, e_un, e_bin, e_if, e_b, b_not, b_and, b_or, b_of, e_call, a_recv, a_snoc, a_nil, prI, prJ, prR, e_gi, e_gr, e_ai, e_ar, s_as, s_aop, s_pf, s_pfz, s_fop, l_set, l_ok, e_div, e_rem, e_len, s_tab, X6_isChimney, em, a1, a2, rc_0, X6_hasHours, b1, hq, hN, g_0_7, rc_86, T1, g_0_6, g_0_0, g_1_7, rr_6 _ k8, rc_82, U1, C1']
        · have R1' : W_X7_clear_1 [.ref 103, .int (nI k), .int 0] (memOf p1) = some (.inl ([.ref 103, .int (nI k), .int (nI K)], memOf p2)) := R1
          have g4 : g1 104 1 = nI m := by rw [e104]; exact em'
          have g5 : g1 104 0 = nI hh := by rw [e104]; exact b2
          have z : nI (csI 36 (rn TRS wd hh Q K k).1) = 0 := by
            rw [eZ] at hZ
            rw [hZ]; rfl
          rw [z] at pz
          simp [D_X7_clear, S_X7_clear, m_den, l0, Value.category, s_seq, s_if, s_st, s_ret, s_retz, s_retv, s_skip, s_sc, s_inc, s_call, e_c, e_li, e_lr, e_lj, e_un, e_bin, e_if, e_b, b_not, b_and, b_or, b_of, e_call, a_recv, a_snoc, a_nil, prI, prJ, prR, e_gi, e_gr, e_ai, e_ar, s_as, s_aop, s_pf, s_pfz, s_fop, l_set, l_ok, e_div, e_rem, e_len, s_tab, X7_isChimney, g4, a1, a2, rc_103, X7_isTooFar, g5, hq, hN, V1, R1', pz, B1]
        · refine h.trial (fun x c1 c2 c3 c4 c5 c6 c7 => ?_) (fun y hy => ?_)
          · by_cases c : x = 104
            · subst c; exact B2
            · rw [B3 x c, P1 x c2 c c4 c5, V2 x c3, C3 x (by omega)]
          · rw [B3 103 (by omega), P2 y (by omega), V2 103 (by omega), C3 103 (by omega)]
      · obtain ⟨g0, C1, C2⟩ := while_rel (b := WB_X6_clear_1) (s := WS_X6_clear_1) (fun j => [.ref 0, .int (nI k), .int (nI j)]) I 73 (by unfold FU; omega) (fun j g hj hI => cb j g (by omega) hI) (fun j g hj hI => cs j g (by omega) (hno j (by omega)) hI) (fun g hI => by
          have e : ¬ nI 73 ≤ (72 : Int32) := by decide
          simp [WB_X6_clear_1, m_den, l0, Value.category, s_seq, s_if, s_st, s_ret, s_retz, s_retv, s_skip, s_sc, s_inc, s_call, e_c, e_li, e_lr, e_lj, e_un, e_bin, e_if, e_b, b_not, b_and, b_or, b_of, e_call, a_recv, a_snoc, a_nil, prI, prJ, prR, e_gi, e_gr, e_ai, e_ar, s_as, s_aop, s_pf, s_pfz, s_fop, l_set, l_ok, e_div, e_rem, e_len, s_tab, e]) I0
        obtain ⟨g1, hg1⟩ : ∃ g1, g1 = row g0 81 (upd (g0 81) 3 (g0 81 3 + 1)) := ⟨_, rfl⟩
        have fin := X6_fin_3 g0
        rw [← hg1] at fin
        have G1 : ∀ x, ¬ (82 ≤ x ∧ x ≤ 89) → x ≠ 81 → g1 x = f x := fun x h1 h2 => by rw [hg1, row_ne _ _ h2]; exact C2.1 x h1
        have e104 := G1 104 (by omega) (by omega)
        obtain ⟨p1, V1, V2, V3⟩ := X7_puts g1
        have p104 : p1 104 = f 104 := by rw [V2 104 (by omega), e104]
        have hS1 : HSt (p1 104) m TRS ro wd := by rw [p104]; exact hS
        obtain ⟨p2, R1, R2⟩ := while_rel (b := WB_X7_clear_1) (s := WS_X7_clear_1) (fun j => [.ref 103, .int (nI k), .int (nI j)]) (fun j g => PL p1 m TRS ro wd hh Q j g) 72 (by unfold FU; omega) (fun j g hj hI => rb j p1 g hj (hno j (by omega)) hS1 hI) (fun j g hj hI => rs j p1 g hj hS1 hI) (fun g hI => by
          have e : ¬ nI 72 < (72 : Int32) := nlt_lit (n := 72) (by omega)
          simp [WB_X7_clear_1, m_den, l0, Value.category, s_seq, s_if, s_st, s_ret, s_retz, s_retv, s_skip, s_sc, s_inc, s_call, e_c, e_li, e_lr, e_lj, e_un, e_bin, e_if, e_b, b_not, b_and, b_or, b_of, e_call, a_recv, a_snoc, a_nil, prI, prJ, prR, e_gi, e_gr, e_ai, e_ar, s_as, s_aop, s_pf, s_pfz, s_fop, l_set, l_ok, e_div, e_rem, e_len, s_tab, e]) (f := p1) (PL.zero (by rw [p104]; exact b2) (fun k hk => by rw [p104]; exact (sp k hk).1))
        obtain ⟨p3, B1, B2, B3⟩ := pbk_of R2 m8 (s0 := f 104) (fun y hy => by rw [V3 y hy, e104]) (fun y hy => by rw [p104])
        have pz := rB 72 p1 p2 (by omega) hS1 R2
        obtain ⟨P1, P2, P3, P4, P5, P6, P7, P8⟩ := R2
        have z : ¬ nI (csI 36 (rn TRS wd hh Q 72 k).1) = 0 := fun e => hno 72 (by omega) (by
          rw [eZ]; exact (nI_inj (b := 0) (hbig 72 (by omega)) (by omega)).mp e)
        have p107 : p3 107 = f 107 := by rw [B3 107 (by omega), P1 107 (by omega) (by omega) (by omega) (by omega), V2 107 (by omega), G1 107 (by omega) (by omega)]
        refine ⟨-1000004, g1, row p3 107 (upd (p3 107) 3 (p3 107 3 + 1)), ?_, ?_, ?_⟩
        · have C1' : W_X6_clear_1 [.ref 0, .int (nI k), .int 0] (memOf f2) = some (.inl ([.ref 0, .int (nI k), .int (nI 73)], memOf g0)) := C1
          simp [D_X6_clear, S_X6_clear, m_den, l0, Value.category, s_seq, s_if, s_st, s_ret, s_retz, s_retv, s_skip, s_sc, s_inc, s_call, e_c, e_li, e_lr, e_lj, e_un, e_bin, e_if, e_b, b_not, b_and, b_or, b_of, e_call, a_recv, a_snoc, a_nil, prI, prJ, prR, e_gi, e_gr, e_ai, e_ar, s_as, s_aop, s_pf, s_pfz, s_fop, l_set, l_ok, e_div, e_rem, e_len, s_tab, X6_isChimney, em, a1, a2, rc_0, X6_hasHours, b1, hq, hN, g_0_7, rc_86, T1, g_0_6, g_0_0, g_1_7, rr_6 _ k8, rc_82, U1, C1', fin]
        · have R1' : W_X7_clear_1 [.ref 103, .int (nI k), .int 0] (memOf p1) = some (.inl ([.ref 103, .int (nI k), .int (nI 72)], memOf p2)) := R1
          have g4 : g1 104 1 = nI m := by rw [e104]; exact em'
          have g5 : g1 104 0 = nI hh := by rw [e104]; exact b2
          simp [D_X7_clear, S_X7_clear, m_den, l0, Value.category, s_seq, s_if, s_st, s_ret, s_retz, s_retv, s_skip, s_sc, s_inc, s_call, e_c, e_li, e_lr, e_lj, e_un, e_bin, e_if, e_b, b_not, b_and, b_or, b_of, e_call, a_recv, a_snoc, a_nil, prI, prJ, prR, e_gi, e_gr, e_ai, e_ar, s_as, s_aop, s_pf, s_pfz, s_fop, l_set, l_ok, e_div, e_rem, e_len, s_tab, X7_isChimney, g4, a1, a2, rc_103, X7_isTooFar, g5, hq, hN, V1, R1', pz, z, B1, X7_fin_3]
        · refine (h.find 3).trial (fun x c1 c2 c3 c4 c5 c6 c7 => ?_) (fun y hy => ?_)
          · unfold fnd
            by_cases c7 : x = 107
            · subst c7; rw [row_self, row_self, p107]
            · rw [row_ne _ _ c7, row_ne _ _ c7]
              by_cases c : x = 104
              · subst c; rw [B2, row_ne _ _ (by omega)]
              · rw [B3 x c, P1 x c2 c c4 c5, V2 x c3, hg1]
                by_cases c8 : x = 81
                · subst c8; rw [row_self, row_self, C2.1 81 (by omega)]
                · rw [row_ne _ _ c8, row_ne _ _ c8, C2.1 x (by omega)]
          · unfold fnd
            rw [row_ne _ _ (by omega), row_ne _ _ (by omega), row_ne _ _ (by omega), B3 103 (by omega), P2 y (by omega), V2 103 (by omega), G1 103 (by omega) (by omega)]
    · refine agr_find (j := 4) (v := -1000005) h ?_ (fun g hg => ?_)
      · simp [D_X6_clear, S_X6_clear, m_den, l0, Value.category, s_seq, s_if, s_st, s_ret, s_retz, s_retv, s_skip, s_sc, s_inc, s_call, e_c, e_li, e_lr, e_lj, e_un, e_bin, e_if, e_b, b_not, b_and, b_or, b_of, e_call, a_recv, a_snoc, a_nil, prI, prJ, prR, e_gi, e_gr, e_ai, e_ar, s_as, s_aop, s_pf, s_pfz, s_fop, l_set, l_ok, e_div, e_rem, e_len, s_tab, X6_isChimney, em, a1, a2, rc_0, X6_hasHours, b1, hq, hN, X6_fin_4]
      · have b2' : g 104 0 = nI hh := by rw [hg.1]; exact b2
        have b3' : g 104 1 = nI m := by rw [hg.1]; exact em'
        simp [D_X7_clear, S_X7_clear, m_den, l0, Value.category, s_seq, s_if, s_st, s_ret, s_retz, s_retv, s_skip, s_sc, s_inc, s_call, e_c, e_li, e_lr, e_lj, e_un, e_bin, e_if, e_b, b_not, b_and, b_or, b_of, e_call, a_recv, a_snoc, a_nil, prI, prJ, prR, e_gi, e_gr, e_ai, e_ar, s_as, s_aop, s_pf, s_pfz, s_fop, l_set, l_ok, e_div, e_rem, e_len, s_tab, X7_isChimney, b3', a1, a2, rc_103, X7_isTooFar, b2', hq, hN, X7_fin_4]
  · exact agr_find h (X6_clear_no0 f (by rw [em]; exact hc)) (fun g hg => X7_clear_no0 g (by rw [hg.1, em']; exact hc))
