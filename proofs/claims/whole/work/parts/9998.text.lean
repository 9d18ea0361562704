/-! text: both sides agree -/
theorem efX_0 {T : Nat → Nat} {t p m : Nat} {F : FN} : efX T t p m F 0 = F 0 := by
  unfold efX
  split
  · exact row_ne _ _ (by omega)
  · split
    · exact row_ne _ _ (by omega)
    · exact chX_ne F _ _ _ _ _ _ _ (by omega) (by unfold chId; omega)
theorem tF_0 {T : Nat → Nat} {t m : Nat} {f : FN} : ∀ i, tF T t m f i 0 = f 0 := fun i => by
  induction i with
  | zero => rfl
  | succ i ih => show efX T t _ _ (tF T t m f i) 0 = f 0; rw [efX_0]; exact ih
theorem X6_text_bad (f : FN) {g : FN} {z n : Int32} (hr : D_X1_read [.ref 77, .ref 1, .int 0] (memOf f) = some (.int n, memOf g)) (hz : g 78 2 = z) (h0 : 0 ≤ z) : D_X6_text [.ref 0] (memOf f) = some (.int (-1 - z), memOf (row g 78 (upd (g 78) 1 0))) := by
  have ha := X4_hasFault g
  rw [hz, if_pos h0] at ha
  simp [D_X6_text, S_X6_text, s_pop, m_den, l0, Value.category, s_seq, s_if, s_st, s_ret, s_retz, s_retv, s_skip, s_sc, s_inc, s_call, e_c, e_li, e_lr, e_lj, e_un, e_bin, e_if, e_b, b_not, b_and, b_or, b_of, e_call, a_recv, a_snoc, a_nil, prI, prJ, prR, e_gi, e_gr, e_ai, e_ar, s_as, s_aop, s_pf, s_pfz, s_fop, l_set, l_ok, e_div, e_rem, e_len, s_tab, g_0_3, g_0_0, rc_77, hr, g_77_0, rc_78, ha, g_78_2, hz, p_78_1]
theorem X6_text_ok (f : FN) {g g2 : FN} {n k : Int32} (hr : D_X1_read [.ref 77, .ref 1, .int 0] (memOf f) = some (.int n, memOf g)) (hz : ¬ 0 ≤ g 78 2) (h2 : D_X1_read [.ref 77, .ref 1, .int 1] (memOf g) = some (.int k, memOf g2)) : D_X6_text [.ref 0] (memOf f) = some (.int n, memOf (row g2 78 (upd (g2 78) 1 0))) := by
  have ha := X4_hasFault g
  rw [if_neg hz] at ha
  simp [D_X6_text, S_X6_text, s_pop, m_den, l0, Value.category, s_seq, s_if, s_st, s_ret, s_retz, s_retv, s_skip, s_sc, s_inc, s_call, e_c, e_li, e_lr, e_lj, e_un, e_bin, e_if, e_b, b_not, b_and, b_or, b_of, e_call, a_recv, a_snoc, a_nil, prI, prJ, prR, e_gi, e_gr, e_ai, e_ar, s_as, s_aop, s_pf, s_pfz, s_fop, l_set, l_ok, e_div, e_rem, e_len, s_tab, g_0_3, g_0_0, rc_77, hr, g_77_0, rc_78, ha, h2, p_78_1]
theorem agr_text {f : FN} (h : REL f) : AGR D_X6_text D_X7_text [] f := by
  obtain ⟨⟨m, hR, hV⟩, -, -, -, ⟨t, ht, et, er⟩, s3, -⟩ := id h
  have em : f 1 2 = nI m := hR.1.2.2.2.1
  have em' : f 104 1 = nI m := hR.1.2.1.trans em
  have hm := hR.1.2.2.2.2
  obtain ⟨T, hTT⟩ : ∃ T : Nat → Nat, ∀ i, i < 120 → f 79 i = nI (T i) ∧ T i < 256 := by
    refine ⟨fun i => if c : i < 120 then Classical.choose (s3 i c).2 else 0, fun i hi => ?_⟩
    have := Classical.choose_spec (s3 i hi).2
    simp only [dif_pos hi]
    exact ⟨this.2, this.1⟩
  have hTX : TPX f T t := ⟨et, ht, fun i hi => hTT i (by omega)⟩
  have hTR : TPR f T t := ⟨er, ht, fun i hi => by rw [← (s3 i (by omega)).1]; exact hTT i (by omega)⟩
  obtain ⟨N, hN, n1, n2⟩ := tN_ex T m ht
  obtain ⟨g1, A1, A2, A3⟩ := X1_read0 f hTX em hm ht hN n1 n2
  have hf := A3.fault
  cases hB : tB T t m N with
  | true =>
    rw [hB] at A3 hf
    have z1 : g1 78 2 = nI (tS T t (tI T t m N).1) := A3.2.2.2
    have z0 : 0 ≤ nI (tS T t (tI T t m N).1) := by rw [← z1]; exact hf.mpr rfl
    obtain ⟨f1, ef⟩ : ∃ f1, f1 = row g1 78 (upd (g1 78) 1 0) := ⟨_, rfl⟩
    have F1 : ∀ x, x ≠ 77 → x ≠ 78 → f1 x = f x := fun x c1 c2 => by rw [ef, row_ne _ _ c2]; exact A2 x c1 c2
    have c1 := X6_text_bad f A1 z1 z0
    rw [← ef] at c1
    obtain ⟨f2, B1, B2, B3, B4, B5, -⟩ := X7_text f1 (T := T) (t := t) (m := m) (N := N) (hTR.congr (by rw [F1 103 (by omega) (by omega)]) (F1 111 (by omega) (by omega))) (by rw [F1 104 (by omega) (by omega)]; exact em') hm hN n1 n2
    rw [if_pos hB] at B1
    refine ⟨_, f1, f2, c1, B1, ?_⟩
    have F2 : ∀ x, x ≠ 77 → x ≠ 78 → x ≠ 103 → x ≠ 106 → f2 x = f x := fun x c1 c2 c3 c4 => by
      by_cases c5 : x = 104
      · subst c5; rw [B5 hB, F1 104 (by omega) (by omega)]
      · rw [B2 x c3 c5 c4, F1 x c1 c2]
    have h6 : REL (row f 106 (f2 106)) := by
      refine h.town (m := m) (fun j hj => row_ne _ _ (by omega)) ⟨by rw [row_ne _ _ (by omega)], by rw [row_ne _ _ (by omega)]⟩ ?_ ?_
      · rw [row_ne _ _ (show (104 : Nat) ≠ 106 by omega)]; exact hR.congr (fun j _ hj => row_ne _ _ (by omega))
      · rw [row_ne _ _ (by omega)]; exact hV
    refine h6.tape (fun x c1 c2 c3 c4 c5 => ?_) ?_ ⟨0, by omega, ?_, B3⟩ (fun i hi => ?_)
    · by_cases c6 : x = 106
      · subst c6; rw [row_self]
      · rw [row_ne _ _ c6]; exact F2 x c1 c2 c4 c6
    · rw [B4, F1 103 (by omega) (by omega), row_ne _ _ (by omega)]
    · rw [B2 78 (by omega) (by omega) (by omega), ef, row_self, upd_self]; rfl
    · rw [F2 79 (by omega) (by omega) (by omega) (by omega), F2 111 (by omega) (by omega) (by omega) (by omega)]; exact s3 i hi
  | false =>
    rw [hB] at A3 hf
    have z0 : ¬ 0 ≤ g1 78 2 := fun c => absurd (hf.mp c) (by decide)
    obtain ⟨g2, C1, C2, C3⟩ := X1_read1 g1 (m := m) A3.2.1 (by rw [A2 1 (by omega) (by omega)]; exact em) ht hN n1 n2 hB
    obtain ⟨f1, ef⟩ : ∃ f1, f1 = row g2 78 (upd (g2 78) 1 0) := ⟨_, rfl⟩
    have F1 : ∀ x, ¬ x < 39 → x ≠ 77 → x ≠ 78 → f1 x = f x := fun x c0 c1 c2 => by rw [ef, row_ne _ _ c2, C3 x c0 c1 c2]; exact A2 x c1 c2
    have F1' : ∀ x, x < 39 → f1 x = tF T t m g1 (N + 1) x := fun x c => by rw [ef, row_ne _ _ (by omega)]; exact C2 x c
    have c1 := X6_text_ok f A1 z0 C1
    rw [← ef] at c1
    obtain ⟨f2, B1, B2, B3, B4, -, B6⟩ := X7_text f1 (T := T) (t := t) (m := m) (N := N) (hTR.congr (by rw [F1 103 (by omega) (by omega) (by omega)]) (F1 111 (by omega) (by omega) (by omega))) (by rw [F1 104 (by omega) (by omega) (by omega)]; exact em') hm hN n1 n2
    rw [if_neg (by rw [hB]; decide)] at B1
    have b6 := B6 hB
    rw [F1 104 (by omega) (by omega) (by omega)] at b6
    refine ⟨_, f1, f2, c1, B1, ?_⟩
    have hb : (tI T t m N).2 = false := by
      cases r : (tI T t m N).2 with
      | false => rfl
      | true => unfold tB at hB; rw [r] at hB; exact absurd hB (by simp)
    have ok : ∀ i, i < N + 1 → (tI T t m i).2 = false := fun i hi => by
      by_cases c : i = N
      · rw [c]; exact hb
      · exact (n2 i (by omega)).1
    have hR1 : TR g1 1 (f 104) m := hR.congr (fun j _ hj => A2 j (by omega) (by omega))
    obtain ⟨r1, r2⟩ := tF_TR hR1 hV (N + 1) ok
    have E2 : ∀ x, x < 39 → f2 x = tF T t m g1 (N + 1) x := fun x c => by rw [B2 x (by omega) (by omega) (by omega)]; exact F1' x c
    have E3 : ∀ x, ¬ x < 39 → x ≠ 77 → x ≠ 78 → x ≠ 103 → x ≠ 104 → x ≠ 106 → f2 x = f x := fun x c0 c1 c2 c3 c4 c5 => by rw [B2 x c3 c4 c5]; exact F1 x c0 c1 c2
    obtain ⟨f', hf'⟩ : ∃ f' : FN, f' = fun x => if x < 39 ∨ x = 104 ∨ x = 106 then f2 x else f x := ⟨_, rfl⟩
    have y1 : ∀ x, (x < 39 ∨ x = 104 ∨ x = 106) → f' x = f2 x := fun x c => by rw [hf']; simp only [if_pos c]
    have y2 : ∀ x, ¬ (x < 39 ∨ x = 104 ∨ x = 106) → f' x = f x := fun x c => by rw [hf']; simp only [if_neg c]
    have f0 : f2 0 = f 0 := by rw [E2 0 (by omega), tF_0, A2 0 (by omega) (by omega)]
    have h6 : REL f' := by
      refine h.town (m := (tq T t m (N + 1)).2) (fun j hj => ?_) ⟨by rw [y2 103 (by omega)], by rw [y2 103 (by omega)]⟩ ?_ ?_
      · by_cases c : j = 0
        · subst c; rw [y1 0 (by omega)]; exact f0
        · exact y2 j (by omega)
      · rw [y1 104 (by omega), b6]
        exact r1.congr (fun j _ hj => by rw [y1 j (by omega)]; exact E2 j (by omega))
      · rw [y1 104 (by omega), b6]; exact r2
    refine h6.tape (fun x c1 c2 c3 c4 c5 => ?_) ?_ ⟨0, by omega, ?_, B3⟩ (fun i hi => ?_)
    · by_cases c : x < 39 ∨ x = 104 ∨ x = 106
      · exact (y1 x c).symm
      · rw [y2 x c]; exact E3 x (by omega) c1 c2 c4 (by omega) (by omega)
    · rw [B4, F1 103 (by omega) (by omega) (by omega), y2 103 (by omega)]
    · rw [B2 78 (by omega) (by omega) (by omega), ef, row_self, upd_self]; rfl
    · rw [E3 79 (by omega) (by omega) (by omega) (by omega) (by omega) (by omega), E3 111 (by omega) (by omega) (by omega) (by omega) (by omega) (by omega)]; exact s3 i hi
