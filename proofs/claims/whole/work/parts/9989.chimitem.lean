theorem X7_chimneyItem (f : FN) {T : Nat → Nat} {t m : Nat} {q0 q : Nat × Bool} (h : cuR f T t q0.1 q0.2) (ht : t ≤ 120) (hm : m ≤ 8) (em : f 104 1 = nI m) (kd : Int32) (eq : nd T t (decide (m < 8)) q0 = q) : ∃ g, D_X7_chimneyItem [.ref 103, .int kd] (memOf f) = some (.null, memOf g) ∧ (∀ x, x ≠ 103 → x ≠ 104 → g x = f x) ∧ (∀ y, ¬ (13 ≤ y ∧ y ≤ 16) → g 103 y = f 103 y) ∧ cuR g T t (chP T t q).1 (chP T t q).2 ∧ ((chP T t q).2 = true → g 104 = f 104) ∧ ((chP T t q).2 = false → g 104 = chR (f 104) m kd (nI (cOw T t q)) (nI (cCe T t q)) (nI (pv T t w_high (cA T t q) 1)) (nI (pv T t w_fire (cH T t q) 20)) (nI (pv T t w_from (cF T t q) 0)) (nI (cLo T t (cF T t q)))) := by
  obtain ⟨g0, Z1, Z2, Z3, Z4⟩ := X7_needs' f h (decide (m < 8))
  have Z0 := fun L => m8E_ok f hm em L
  have ok8 : (chP T t q).2 = false → m < 8 := fun hq => by
    have := (nd_ok (chP_ok hq).2.2.2).1
    rw [← eq] at this
    exact of_decide_eq_true (nd_ok (nd_ok this).1).2
  generalize b2i (decide (m < 8)) = z0 at Z1 Z0
  rw [eq] at Z4
  obtain ⟨z1, g1, A0, A1, A2, A3, A4⟩ := X7_needsE g0 (q := q) (C := 486) (ws := w_of) Z4 (by decide) (wc_of T Z4.1 ht)
  obtain ⟨g2, B1, B2, B3, B4, B5⟩ := X7_number' g1 (q := nw T t w_of q) (most := 5) A4 (by omega)
  obtain ⟨z2, g3, C0, C1, C2, C3, C4⟩ := X7_needsE g2 (q := nm T t 5 (nw T t w_of q)) (C := 52) (ws := w_at) B4 (by decide) (wc_at T B4.1 ht)
  obtain ⟨g4, D1, D2, D3, D4, D5⟩ := X7_number' g3 (q := nw T t w_at (nm T t 5 (nw T t w_of q))) (most := 35) C4 (by omega)
  have D4' : cuR g4 T t (cA T t q).1 (cA T t q).2 := D4
  obtain ⟨hi, g5, E0, E1, E2, E3, E4, E5⟩ := X7_opt g4 (q := cA T t q) (C := 271592) (ws := w_high) (most := 9) D4' (by decide) (wc_high T D4'.1 ht) (by omega) 1
  have E4' : cuR g5 T t (cH T t q).1 (cH T t q).2 := E4
  obtain ⟨fi, g6, F0, F1, F2, F3, F4, F5⟩ := X7_opt g5 (q := cH T t q) (C := 206405) (ws := w_fire) (most := 99) E4' (by decide) (wc_fire T E4'.1 ht) (by omega) 20
  have F4' : cuR g6 T t (cF T t q).1 (cF T t q).2 := F4
  obtain ⟨fr, g7, G0, G1, G2, G3, G4, G5⟩ := X7_opt g6 (q := cF T t q) (C := 215533) (ws := w_from) (most := 23) F4' (by decide) (wc_from T F4'.1 ht) (by omega) 0
  obtain ⟨lo, g8, H1, H2, H3, H4, H5⟩ := X7_fromR g7 (q := cF T t q) G4 ht kd (g2 103 15) (g4 103 15) hi fi fr
  have B1' : D_X7_number [.ref 103, .int 0, .int 5] (memOf g1) = some (.null, memOf g2) := B1
  have D1' : D_X7_number [.ref 103, .int 0, .int 35] (memOf g3) = some (.null, memOf g4) := D1
  have E1' : D_X7_perhaps [.ref 103, .int (b2i (hB T t w_high (cA T t q))), .int 9, .int 1] (memOf g4) = some (.int hi, memOf g5) := E1
  have F1' : D_X7_perhaps [.ref 103, .int (b2i (hB T t w_fire (cH T t q))), .int 99, .int 20] (memOf g5) = some (.int fi, memOf g6) := F1
  have G1' : D_X7_perhaps [.ref 103, .int (b2i (hB T t w_from (cF T t q))), .int 23, .int 0] (memOf g6) = some (.int fr, memOf g7) := G1
  have e8 : ∀ x, x ≠ 103 → g8 x = f x := fun x hx => by rw [H2 x hx, G2 x hx, F2 x hx, E2 x hx, D2 x hx, C2 x hx, B2 x hx, A2 x hx, Z2 x hx]
  have y8 : ∀ y, ¬ (13 ≤ y ∧ y ≤ 16) → g8 103 y = f 103 y := fun y hy => by rw [H3 y hy, G3 y hy, F3 y hy, E3 y hy, D3 y hy, C3 y hy, B3 y hy, A3 y hy, Z3 y hy]
  have H4' : cuR g8 T t (chP T t q).1 (chP T t q).2 := H4
  have w8 : g8 103 16 = b2i (chP T t q).2 := H4'.2.2.2
  have fin : ∀ g, setR [.ref 103, .int kd, .int (g2 103 15), .int (g4 103 15), .int hi, .int fi, .int (b2i (hB T t w_from (cF T t q))), .int fr, .int lo] (memOf g8) = some (.inl ([.ref 103, .int kd, .int (g2 103 15), .int (g4 103 15), .int hi, .int fi, .int (b2i (hB T t w_from (cF T t q))), .int fr, .int lo], memOf g)) → D_X7_chimneyItem [.ref 103, .int kd] (memOf f) = some (.null, memOf g) := fun g hg => by
    unfold D_X7_chimneyItem
    rw [ci_eq]
    generalize b2i (hB T t w_from (cF T t q)) = b6 at G0 G1' H1 hg
    generalize b2i (hB T t w_fire (cH T t q)) = b5 at F0 F1'
    generalize b2i (hB T t w_high (cA T t q)) = b4 at E0 E1'
    simp [m_den, l0, Value.category, s_seq, s_if, s_st, s_ret, s_retz, s_retv, s_skip, s_sc, s_inc, s_call, e_c, e_li, e_lr, e_lj, e_un, e_bin, e_if, e_b, b_not, b_and, b_or, b_of, e_call, a_recv, a_snoc, a_nil, prI, prJ, prR, e_gi, e_gr, e_ai, e_ar, s_as, s_aop, s_pf, s_pfz, s_fop, l_set, l_ok, e_div, e_rem, e_len, s_tab, rc_103, Z0, Z1, A0, A1, B1', g_103_15, C0, C1, D1', E0, E1', F0, F1', G0, G1', H1, hg]
  cases hq : (chP T t q).2 with
  | true =>
    rw [hq] at w8 H4'
    exact ⟨g8, fin g8 (X7_set0 g8 _ w8), fun x h1 _ => e8 x h1, y8, H4', fun _ => e8 104 (by omega), fun c => absurd c (by decide)⟩
  | false =>
    have m8 := ok8 hq
    obtain ⟨o1, o2, o3, o4⟩ := chP_ok hq
    have v2 : g2 103 15 = nI (cOw T t q) := B5 o4
    have v3 : g4 103 15 = nI (cCe T t q) := D5 o3
    have v4 := E5 o2
    have v5 := F5 o1
    have v7 : fr = nI (pv T t w_from (cF T t q) 0) := by
      cases r : hB T t w_from (cF T t q) with
      | false => refine G5 ?_; rw [ph_no r]; exact o1
      | true =>
        refine G5 ?_
        have hq' : (cQ T t (cF T t q)).2 = false := hq
        unfold cQ at hq'
        rw [r] at hq'
        exact (nd_ok (nd_ok hq').1).1
    have v8 : lo = nI (cLo T t (cF T t q)) := H5 hq
    rw [hq] at w8 H4'
    have st := X7_set1 g8 m8 (by rw [e8 104 (by omega)]; exact em) kd (g2 103 15) (g4 103 15) hi fi (b2i (hB T t w_from (cF T t q))) fr lo w8
    refine ⟨_, fin _ st, fun x h1 h2 => by rw [row_ne _ _ h2]; exact e8 x h1, fun y hy => by rw [row_ne _ _ (by omega)]; exact y8 y hy, cuR_104 H4' _, fun c => absurd c (by decide), fun _ => ?_⟩
    rw [row_self, e8 104 (by omega), v2, v3, v4, v5, v7, v8]
