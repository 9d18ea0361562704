/-! the reference's hour -/
def inCh (k y : Nat) : Prop := (125 + 36 * k ≤ y ∧ y < 161 + 36 * k) ∨ (413 + 36 * k ≤ y ∧ y < 449 + 36 * k) ∨ y = 701 + k ∨ y = 709 + k ∨ y = 717 + k
theorem HR.sig {σ τ : Nat → Int32} {k : Nat} {q : SMK} (h : HR σ k q) (e : ∀ y, inCh k y → τ y = σ y) : HR τ k q := by
  obtain ⟨q1, q2, q3, q4, q5⟩ := h
  refine ⟨fun c hc => ?_, fun c hc => ?_, ?_, ?_, ?_⟩
  · rw [e _ (by unfold inCh; omega)]; exact q1 c hc
  · rw [e _ (by unfold inCh; omega)]; exact q2 c hc
  · rw [e _ (by unfold inCh; omega)]; exact q3
  · rw [e _ (by unfold inCh; omega)]; exact q4
  · rw [e _ (by unfold inCh; omega)]; exact q5
theorem bM_eq (tr : Nat → Nat) (cl : Nat) : burnsN (tr 0) (tr 4) (tr 5) (tr 6) cl = nI (bM tr cl) := by
  unfold burnsN bM
  split
  · exact burM_eq _ _ _
  · rfl
theorem inCh_dis {k k' y : Nat} (hk : k < 8) (hk' : k' < 8) (hne : k ≠ k') (h : inCh k y) : ¬ inCh k' y := by
  unfold inCh at *; omega
theorem X7_hour_W1 (f : FN) {m cl : Nat} {TRS : Nat → Nat → Nat} {R : Nat → SMK} (hm : m ≤ 8) (hc : cl < 24) (em : f 104 1 = nI m) (hT : ∀ k, k < m → HRt (f 104) k (TRS k) ∧ TB (TRS k)) (hR : ∀ k, k < m → HR (f 104) k (R k)) : ∃ g, W_X7_hour_1 [.ref 103, .int (nI cl), .int 0, .int 0] (memOf f) = some (.inl ([.ref 103, .int (nI cl), .int 0, .int (nI m)], memOf g)) ∧ (∀ x, x ≠ 104 → g x = f x) ∧ (∀ y, (∀ k, k < m → ¬ inCh k y) → g 104 y = f 104 y) ∧ ∀ k, k < m → HR (g 104) k (smBurn (TRS k 2) (bM (TRS k) cl) (R k)) := by
  have key := while_rel (b := WB_X7_hour_1) (s := WS_X7_hour_1) (fun j => [.ref 103, .int (nI cl), .int 0, .int (nI j)]) (fun j g => (∀ x, x ≠ 104 → g x = f x) ∧ (∀ y, (∀ k, k < m → ¬ inCh k y) → g 104 y = f 104 y) ∧ ∀ k, k < m → HR (g 104) k (if k < j then smBurn (TRS k 2) (bM (TRS k) cl) (R k) else R k)) m (by unfold FU; omega) (fun j g hj hI => ?_) (fun j g hj hI => ?_) (fun g hI => ?_) (f := f) ⟨fun _ _ => rfl, fun _ _ => rfl, fun k hk => by rw [if_neg (by omega)]; exact hR k hk⟩
  · obtain ⟨g, W, I1, I2, I3⟩ := key
    refine ⟨g, W, I1, I2, fun k hk => ?_⟩
    have := I3 k hk
    rw [if_pos hk] at this; exact this
  · have em' : g 104 1 = nI m := by rw [hI.2.1 1 (fun k hk => by unfold inCh; omega)]; exact em
    have e : nI j < nI m := (nI_lt_iff (by omega) (by omega)).mpr hj
    simp [WB_X7_hour_1, m_den, l0, Value.category, s_seq, s_if, s_st, s_ret, s_retz, s_retv, s_skip, s_sc, s_inc, s_call, e_c, e_li, e_lr, e_lj, e_un, e_bin, e_if, e_b, b_not, b_and, b_or, b_of, e_call, a_recv, a_snoc, a_nil, prI, prJ, prR, e_gi, e_gr, e_ai, e_ar, s_as, s_aop, s_pf, s_pfz, s_fop, l_set, l_ok, e_div, e_rem, e_len, s_tab, g_103_0, rd_104_1, em', e]
  · obtain ⟨I1, I2, I3⟩ := hI
    obtain ⟨ht, hb⟩ := hT j hj
    have j8 : j < 8 := by omega
    have Ij := I3 j hj
    rw [if_neg (by omega)] at Ij
    obtain ⟨q1, q2, q3, q4, q5⟩ := Ij
    have k0 : TRS j 0 < 7 := by have := hb 0 (by omega); simp only [lim] at this; omega
    have k2 : TRS j 2 < 36 := by have := hb 2 (by omega); simp only [lim] at this; omega
    have f5 : TRS j 5 < 24 := by have := hb 5 (by omega); simp only [lim] at this; omega
    have f6 : TRS j 6 ≤ 24 := hb 6 (by omega)
    have fr : ∀ y, 63 ≤ y → y < 119 → g 104 y = f 104 y := fun y h1 h2 => I2 y (fun k hk => by unfold inCh; omega)
    have BU : ∀ g' : FN, (∀ y, 63 ≤ y → y < 119 → g' 104 y = f 104 y) → D_X7_burns [.ref 103, .int (nI j), .int (nI cl)] (memOf g') = some (.int (nI (bM (TRS j) cl)), memOf g') := fun g' hg => by
      rw [← bM_eq]
      exact X7_burns g' j8 k0 f5 f6 hc (by rw [hg _ (by omega) (by omega)]; exact ht 0 (by omega)) (by rw [hg _ (by omega) (by omega)]; exact ht 4 (by omega)) (by rw [hg _ (by omega) (by omega)]; exact ht 5 (by omega)) (by rw [hg _ (by omega) (by omega)]; exact ht 6 (by omega))
    have it := X7_its2 g j8
    rw [fr _ (by omega) (by omega), ht 2 (by omega)] at it
    have r1 := rd_104 g (show 125 + 36 * j + TRS j 2 < 735 by omega)
    rw [q1 _ k2] at r1
    obtain ⟨ga, hga⟩ : ∃ ga, ga = row g 104 (upd (g 104) (125 + 36 * j + TRS j 2) (nI ((R j).1 (TRS j 2)) + nI (bM (TRS j) cl))) := ⟨_, rfl⟩
    have w1 := wr_104 g (show 125 + 36 * j + TRS j 2 < 735 by omega) (nI ((R j).1 (TRS j 2)) + nI (bM (TRS j) cl))
    rw [← hga] at w1
    have r2 : gm_rd (memOf ga) 104 (nI (717 + j)) = some (nI (R j).2.2.2.2) := by
      rw [rd_104 ga (show 717 + j < 735 by omega), hga, row_self, upd_ne _ _ (by omega), q5]
    obtain ⟨gb, hgb⟩ : ∃ gb, gb = row ga 104 (upd (ga 104) (717 + j) (nI (R j).2.2.2.2 + nI (bM (TRS j) cl))) := ⟨_, rfl⟩
    have w2 := wr_104 ga (show 717 + j < 735 by omega) (nI (R j).2.2.2.2 + nI (bM (TRS j) cl))
    rw [← hgb] at w2
    have B1 := BU g fr
    have B2 := BU ga (fun y h1 h2 => by rw [hga, row_self, upd_ne _ _ (by omega)]; exact fr y h1 h2)
    have eb4 : ∀ y, y ≠ 125 + 36 * j + TRS j 2 → y ≠ 717 + j → gb 104 y = g 104 y := fun y h1 h2 => by
      rw [hgb, row_self, upd_ne _ _ h2, hga, row_self, upd_ne _ _ h1]
    refine ⟨gb, ?_, fun x hx => by rw [hgb, row_ne _ _ hx, hga, row_ne _ _ hx]; exact I1 x hx, fun y hy => ?_, fun k hk => ?_⟩
    · have i7 : (717 : Int32) + nI j = nI (717 + j) := nI_a 717 j
      simp [WS_X7_hour_1, m_den, l0, Value.category, s_seq, s_if, s_st, s_ret, s_retz, s_retv, s_skip, s_sc, s_inc, s_call, e_c, e_li, e_lr, e_lj, e_un, e_bin, e_if, e_b, b_not, b_and, b_or, b_of, e_call, a_recv, a_snoc, a_nil, prI, prJ, prR, e_gi, e_gr, e_ai, e_ar, s_as, s_aop, s_pf, s_pfz, s_fop, l_set, l_ok, e_div, e_rem, e_len, s_tab, g_103_0, rc_103, it, i125, i7, r1, r2, B1, B2, w1, w2, nI_next]
    · have hj' := hy j hj
      unfold inCh at hj'
      rw [eb4 y (by omega) (by omega)]; exact I2 y hy
    · by_cases e : k = j
      · subst e
        rw [if_pos (by omega)]
        unfold smBurn
        refine ⟨fun c hc => ?_, fun c hc => ?_, ?_, ?_, ?_⟩
        · simp only
          by_cases e2 : c = TRS k 2
          · rw [if_pos e2, e2, hgb, row_self, upd_ne _ _ (by omega), hga, row_self, upd_self, nI_a]
          · rw [if_neg e2, eb4 _ (by omega) (by omega)]; exact q1 c hc
        · rw [eb4 _ (by omega) (by omega)]; exact q2 c hc
        · rw [eb4 _ (by omega) (by omega)]; exact q3
        · rw [eb4 _ (by omega) (by omega)]; exact q4
        · rw [hgb, row_self, upd_self, nI_a]
      · have h1 : (k < j + 1) = (k < j) := by apply propext; omega
        simp only [h1]
        refine (I3 k hk).sig (fun y hy => eb4 y ?_ ?_)
        · unfold inCh at hy; omega
        · unfold inCh at hy; omega
  · have em' : g 104 1 = nI m := by rw [hI.2.1 1 (fun k hk => by unfold inCh; omega)]; exact em
    have e : ¬ nI m < nI m := Int32.lt_irrefl
    simp [WB_X7_hour_1, m_den, l0, Value.category, s_seq, s_if, s_st, s_ret, s_retz, s_retv, s_skip, s_sc, s_inc, s_call, e_c, e_li, e_lr, e_lj, e_un, e_bin, e_if, e_b, b_not, b_and, b_or, b_of, e_call, a_recv, a_snoc, a_nil, prI, prJ, prR, e_gi, e_gr, e_ai, e_ar, s_as, s_aop, s_pf, s_pfz, s_fop, l_set, l_ok, e_div, e_rem, e_len, s_tab, g_103_0, rd_104_1, em', e]
theorem X7_hour_W2 (f : FN) {m cl w : Nat} {R : Nat → SMK} (hm : m ≤ 8) (hc : cl < 24) (hw : w < 5) (em : f 104 1 = nI m) (ew : f 104 (39 + cl) = nI w) (hR : ∀ k, k < m → HR (f 104) k (R k)) : ∃ g, W_X7_hour_2 [.ref 103, .int (nI cl), .int 0, .int 0] (memOf f) = some (.inl ([.ref 103, .int (nI cl), .int 0, .int (nI m)], memOf g)) ∧ (∀ x, x ≠ 104 → x ≠ 108 → g x = f x) ∧ (∀ y, (∀ k, k < m → ¬ inCh k y) → g 104 y = f 104 y) ∧ ∀ k, k < m → HR (g 104) k (smWind w (R k)) := by
  have key := while_rel (b := WB_X7_hour_2) (s := WS_X7_hour_2) (fun j => [.ref 103, .int (nI cl), .int 0, .int (nI j)]) (fun j g => (∀ x, x ≠ 104 → x ≠ 108 → g x = f x) ∧ (∀ y, (∀ k, k < m → ¬ inCh k y) → g 104 y = f 104 y) ∧ ∀ k, k < m → HR (g 104) k (if k < j then smWind w (R k) else R k)) m (by unfold FU; omega) (fun j g hj hI => ?_) (fun j g hj hI => ?_) (fun g hI => ?_) (f := f) ⟨fun _ _ _ => rfl, fun _ _ => rfl, fun k hk => by rw [if_neg (by omega)]; exact hR k hk⟩
  · obtain ⟨g, W, I1, I2, I3⟩ := key
    refine ⟨g, W, I1, I2, fun k hk => ?_⟩
    have := I3 k hk
    rw [if_pos hk] at this; exact this
  · have em' : g 104 1 = nI m := by rw [hI.2.1 1 (fun k hk => by unfold inCh; omega)]; exact em
    have e : nI j < nI m := (nI_lt_iff (by omega) (by omega)).mpr hj
    simp [WB_X7_hour_2, m_den, l0, Value.category, s_seq, s_if, s_st, s_ret, s_retz, s_retv, s_skip, s_sc, s_inc, s_call, e_c, e_li, e_lr, e_lj, e_un, e_bin, e_if, e_b, b_not, b_and, b_or, b_of, e_call, a_recv, a_snoc, a_nil, prI, prJ, prR, e_gi, e_gr, e_ai, e_ar, s_as, s_aop, s_pf, s_pfz, s_fop, l_set, l_ok, e_div, e_rem, e_len, s_tab, g_103_0, rd_104_1, em', e]
  · obtain ⟨I1, I2, I3⟩ := hI
    have Ij := I3 j hj
    rw [if_neg (by omega)] at Ij
    obtain ⟨g2, G1, G2, G3, G4⟩ := X7_goes g (by omega) hw Ij
    have rw' := rd_104 g (show 39 + cl < 735 by omega)
    rw [I2 _ (fun k hk => by unfold inCh; omega), ew] at rw'
    refine ⟨g2, ?_, fun x h1 h2 => by rw [G3 x h1 h2]; exact I1 x h1 h2, fun y hy => ?_, fun k hk => ?_⟩
    · have i3 : (39 : Int32) + nI cl = nI (39 + cl) := nI_a 39 cl
      simp [WS_X7_hour_2, m_den, l0, Value.category, s_seq, s_if, s_st, s_ret, s_retz, s_retv, s_skip, s_sc, s_inc, s_call, e_c, e_li, e_lr, e_lj, e_un, e_bin, e_if, e_b, b_not, b_and, b_or, b_of, e_call, a_recv, a_snoc, a_nil, prI, prJ, prR, e_gi, e_gr, e_ai, e_ar, s_as, s_aop, s_pf, s_pfz, s_fop, l_set, l_ok, e_div, e_rem, e_len, s_tab, g_103_0, rc_103, i3, rw', G1, nI_next]
    · have hj' := hy j hj
      unfold inCh at hj'
      rw [G4 y (by omega) (by omega) (by omega)]; exact I2 y hy
    · by_cases e : k = j
      · subst e; rw [if_pos (by omega)]; exact G2
      · have h1 : (k < j + 1) = (k < j) := by apply propext; omega
        simp only [h1]
        refine (I3 k hk).sig (fun y hy => G4 y ?_ ?_ ?_)
        · unfold inCh at hy; omega
        · unfold inCh at hy; omega
        · unfold inCh at hy; omega
  · have em' : g 104 1 = nI m := by rw [hI.2.1 1 (fun k hk => by unfold inCh; omega)]; exact em
    have e : ¬ nI m < nI m := Int32.lt_irrefl
    simp [WB_X7_hour_2, m_den, l0, Value.category, s_seq, s_if, s_st, s_ret, s_retz, s_retv, s_skip, s_sc, s_inc, s_call, e_c, e_li, e_lr, e_lj, e_un, e_bin, e_if, e_b, b_not, b_and, b_or, b_of, e_call, a_recv, a_snoc, a_nil, prI, prJ, prR, e_gi, e_gr, e_ai, e_ar, s_as, s_aop, s_pf, s_pfz, s_fop, l_set, l_ok, e_div, e_rem, e_len, s_tab, g_103_0, rd_104_1, em', e]
theorem X7_hour_W3 (f : FN) {m : Nat} {cl : Int32} {TRS : Nat → Nat → Nat} {ro : Nat → Option Nat} {R : Nat → SMK} (hm : m ≤ 8) (em : f 104 1 = nI m) (hT : ∀ k, k < m → HRt (f 104) k (TRS k) ∧ TB (TRS k)) (hRo : HRoR (f 104) ro) (hR : ∀ k, k < m → HR (f 104) k (R k)) (hA : ∀ k, k < m → ∀ c, c < 36 → (R k).1 c ≤ 3000000) : ∃ g, W_X7_hour_3 [.ref 103, .int cl, .int 0, .int 0] (memOf f) = some (.inl ([.ref 103, .int cl, .int (nI (csI m (fun k => csI 36 (pt (sooM (TRS k 0) (TRS k 3)) (R k))))), .int (nI m)], memOf g)) ∧ (∀ x, x ≠ 103 → x ≠ 104 → x ≠ 109 → g x = f x) ∧ (∀ y, y ≠ 9 → g 103 y = f 103 y) ∧ (∀ rb, f 103 9 = b2i rb → g 103 9 = b2i (rb || orB m (fun k => orB 36 (fun c => hitB k (pt (sooM (TRS k 0) (TRS k 3)) (R k) c) (ro c) (f 103 7) (f 103 8))))) ∧ (∀ y, ¬ (119 ≤ y ∧ y < 125) → (∀ k, k < m → ¬ inCh k y) → g 104 y = f 104 y) ∧ (∀ k, k < m → HR (g 104) k (smSet (sooM (TRS k 0) (TRS k 3)) (R k))) ∧ (∀ bo : Nat → Int, (∀ o, o < 6 → f 104 (119 + o) = iI (bo o)) → ∀ o, o < 6 → g 104 (119 + o) = iI (bo o + ciI m (fun k => ciI 36 (fun c => kC (pt (sooM (TRS k 0) (TRS k 3)) (R k) c) (woM (TRS k 0)) (TRS k 1) (ro c) o)))) ∧ ∀ di : Nat → Nat, (∀ o, o < 6 → f 109 o = nI (di o)) → ∀ o, o < 6 → g 109 o = nI (di o + csI m (fun k => csI 36 (fun c => kD (pt (sooM (TRS k 0) (TRS k 3)) (R k) c) (woM (TRS k 0)) (ro c) o))) := by
  have key := while_rel (b := WB_X7_hour_3) (s := WS_X7_hour_3) (fun j => [.ref 103, .int cl, .int (nI (csI j (fun k => csI 36 (pt (sooM (TRS k 0) (TRS k 3)) (R k))))), .int (nI j)]) (fun j g => (∀ x, x ≠ 103 → x ≠ 104 → x ≠ 109 → g x = f x) ∧ (∀ y, y ≠ 9 → g 103 y = f 103 y) ∧ (∀ rb, f 103 9 = b2i rb → g 103 9 = b2i (rb || orB j (fun k => orB 36 (fun c => hitB k (pt (sooM (TRS k 0) (TRS k 3)) (R k) c) (ro c) (f 103 7) (f 103 8))))) ∧ (∀ y, ¬ (119 ≤ y ∧ y < 125) → (∀ k, k < m → ¬ inCh k y) → g 104 y = f 104 y) ∧ (∀ k, k < m → HR (g 104) k (if k < j then smSet (sooM (TRS k 0) (TRS k 3)) (R k) else R k)) ∧ (∀ bo : Nat → Int, (∀ o, o < 6 → f 104 (119 + o) = iI (bo o)) → ∀ o, o < 6 → g 104 (119 + o) = iI (bo o + ciI j (fun k => ciI 36 (fun c => kC (pt (sooM (TRS k 0) (TRS k 3)) (R k) c) (woM (TRS k 0)) (TRS k 1) (ro c) o)))) ∧ ∀ di : Nat → Nat, (∀ o, o < 6 → f 109 o = nI (di o)) → ∀ o, o < 6 → g 109 o = nI (di o + csI j (fun k => csI 36 (fun c => kD (pt (sooM (TRS k 0) (TRS k 3)) (R k) c) (woM (TRS k 0)) (ro c) o)))) m (by unfold FU; omega) (fun j g hj hI => ?_) (fun j g hj hI => ?_) (fun g hI => ?_) (f := f) ⟨fun _ _ _ _ => rfl, fun _ _ => rfl, fun rb h => by rw [h]; simp [orB], fun _ _ _ => rfl, fun k hk => by rw [if_neg (by omega)]; exact hR k hk, fun bo h o ho => by rw [h o ho]; simp [ciI], fun di h o ho => by rw [h o ho]; simp [csI]⟩
  · obtain ⟨g, W, I1, I2, I3, I4, I5, I6, I7⟩ := key
    refine ⟨g, W, I1, I2, I3, I4, fun k hk => ?_, I6, I7⟩
    have := I5 k hk
    rw [if_pos hk] at this; exact this
  · have em' : g 104 1 = nI m := by rw [hI.2.2.2.1 1 (by omega) (fun k hk => by unfold inCh; omega)]; exact em
    have e : nI j < nI m := (nI_lt_iff (by omega) (by omega)).mpr hj
    simp [WB_X7_hour_3, m_den, l0, Value.category, s_seq, s_if, s_st, s_ret, s_retz, s_retv, s_skip, s_sc, s_inc, s_call, e_c, e_li, e_lr, e_lj, e_un, e_bin, e_if, e_b, b_not, b_and, b_or, b_of, e_call, a_recv, a_snoc, a_nil, prI, prJ, prR, e_gi, e_gr, e_ai, e_ar, s_as, s_aop, s_pf, s_pfz, s_fop, l_set, l_ok, e_div, e_rem, e_len, s_tab, g_103_0, rd_104_1, em', e]
  · obtain ⟨I1, I2, I3, I4, I5, I6, I7⟩ := hI
    obtain ⟨ht, hb⟩ := hT j hj
    have Ij := I5 j hj
    rw [if_neg (by omega)] at Ij
    have fr : ∀ y, 3 ≤ y → y < 119 → g 104 y = f 104 y := fun y h1 h2 => I4 y (by omega) (fun k hk => by unfold inCh; omega)
    obtain ⟨g2, S1, S2, S3, S4, S5, S6, S7, S8⟩ := X7_settles g (by omega) Ij (fun x hx => by rw [fr _ (by omega) (by omega)]; exact ht x hx) hb (ro := ro) (fun c hc => by rw [fr _ (by omega) (by omega)]; exact hRo c hc) (hA j hj)
    refine ⟨g2, ?_, fun x h1 h2 h3 => by rw [S3 x h1 h2 h3]; exact I1 x h1 h2 h3, fun y hy => by rw [S4 y hy]; exact I2 y hy, fun rb h => ?_, fun y h1 hy => ?_, fun k hk => ?_, fun bo h o ho => ?_, fun di h o ho => ?_⟩
    · simp [WS_X7_hour_3, m_den, l0, Value.category, s_seq, s_if, s_st, s_ret, s_retz, s_retv, s_skip, s_sc, s_inc, s_call, e_c, e_li, e_lr, e_lj, e_un, e_bin, e_if, e_b, b_not, b_and, b_or, b_of, e_call, a_recv, a_snoc, a_nil, prI, prJ, prR, e_gi, e_gr, e_ai, e_ar, s_as, s_aop, s_pf, s_pfz, s_fop, l_set, l_ok, e_div, e_rem, e_len, s_tab, g_103_0, rc_103, S1, nI_next, nI_a, csI_succ]
    · have := S5 _ (I3 rb h)
      rw [I2 7 (by omega), I2 8 (by omega)] at this
      rw [this, Bool.or_assoc]; rfl
    · have hj' := hy j hj
      unfold inCh at hj'
      rw [S6 y h1 (by omega) (by omega)]; exact I4 y h1 hy
    · by_cases e : k = j
      · subst e; rw [if_pos (by omega)]; exact S2
      · have h1 : (k < j + 1) = (k < j) := by apply propext; omega
        simp only [h1]
        refine (I5 k hk).sig (fun y hy => S6 y ?_ ?_ ?_)
        · unfold inCh at hy; omega
        · unfold inCh at hy; omega
        · unfold inCh at hy; omega
    · rw [S7 _ (I6 bo h) o ho, Int.add_assoc]; rfl
    · rw [S8 _ (I7 di h) o ho, Nat.add_assoc]; rfl
  · have em' : g 104 1 = nI m := by rw [hI.2.2.2.1 1 (by omega) (fun k hk => by unfold inCh; omega)]; exact em
    have e : ¬ nI m < nI m := Int32.lt_irrefl
    simp [WB_X7_hour_3, m_den, l0, Value.category, s_seq, s_if, s_st, s_ret, s_retz, s_retv, s_skip, s_sc, s_inc, s_call, e_c, e_li, e_lr, e_lj, e_un, e_bin, e_if, e_b, b_not, b_and, b_or, b_of, e_call, a_recv, a_snoc, a_nil, prI, prJ, prR, e_gi, e_gr, e_ai, e_ar, s_as, s_aop, s_pf, s_pfz, s_fop, l_set, l_ok, e_div, e_rem, e_len, s_tab, g_103_0, rd_104_1, em', e]
