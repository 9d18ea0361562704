/-! the class reads a text, both readings -/
theorem rd_sign (g : FN) {T : Nat → Nat} {t : Nat} {q : Nat × Bool} (h : cuX g T t q.1 q.2) (sr : Int32) {n : Nat} (hn : n ≤ 1000) : ∃ g', WB_X1_read_1 [.ref 77, .ref 1, .int sr, .int (nI n)] (memOf g) = some (decide (n ≤ 120 ∧ q.2 = false ∧ tK T t q.1 = 3), memOf g') ∧ (∀ x, x ≠ 78 → g' x = g x) ∧ (n ≤ 120 ∧ q.2 = false ∧ tK T t q.1 = 3 → cuX g' T t (tE T t q.1) false) ∧ (¬ (n ≤ 120 ∧ q.2 = false ∧ tK T t q.1 = 3) → cuX g' T t q.1 q.2) := by
  have n120 : (nI n ≤ (120 : Int32)) = (n ≤ 120) := propext (nI_le_iff (a := n) (b := 120) (by omega) (by omega))
  by_cases c1 : n ≤ 120
  · obtain ⟨g', A1, A2, A3⟩ := X4_passSign g h
    by_cases c2 : q.2 = false ∧ tK T t q.1 = 3
    · have e : (!q.2 && decide (tK T t q.1 = 3)) = true := by rw [c2.1, decide_eq_true c2.2]; rfl
      rw [e] at A1 A3
      refine ⟨g', ?_, A2, fun _ => A3, fun c => absurd ⟨c1, c2⟩ c⟩
      rw [decide_eq_true (show n ≤ 120 ∧ q.2 = false ∧ tK T t q.1 = 3 from ⟨c1, c2⟩)]
      simp [WB_X1_read_1, m_den, l0, Value.category, s_seq, s_if, s_st, s_ret, s_retz, s_retv, s_skip, s_sc, s_inc, s_call, e_c, e_li, e_lr, e_lj, e_un, e_bin, e_if, e_b, b_not, b_and, b_or, b_of, e_call, a_recv, a_snoc, a_nil, prI, prJ, prR, e_gi, e_gr, e_ai, e_ar, s_as, s_aop, s_pf, s_pfz, s_fop, l_set, l_ok, e_div, e_rem, e_len, s_tab, n120, c1, g_77_0, rc_78, A1, b2i]
    · have e : (!q.2 && decide (tK T t q.1 = 3)) = false := by
        cases r : q.2 with
        | true => rfl
        | false => rw [decide_eq_false (fun c => c2 ⟨r, c⟩)]; rfl
      rw [e] at A1 A3
      rw [if_neg (by decide)] at A3
      refine ⟨g', ?_, A2, fun c => absurd c.2 c2, fun _ => A3⟩
      rw [decide_eq_false (fun c : n ≤ 120 ∧ q.2 = false ∧ tK T t q.1 = 3 => c2 c.2)]
      simp [WB_X1_read_1, m_den, l0, Value.category, s_seq, s_if, s_st, s_ret, s_retz, s_retv, s_skip, s_sc, s_inc, s_call, e_c, e_li, e_lr, e_lj, e_un, e_bin, e_if, e_b, b_not, b_and, b_or, b_of, e_call, a_recv, a_snoc, a_nil, prI, prJ, prR, e_gi, e_gr, e_ai, e_ar, s_as, s_aop, s_pf, s_pfz, s_fop, l_set, l_ok, e_div, e_rem, e_len, s_tab, n120, c1, g_77_0, rc_78, A1, b2i]
  · refine ⟨g, ?_, fun _ _ => rfl, fun c => absurd c.1 c1, fun _ => h⟩
    rw [decide_eq_false (fun c : n ≤ 120 ∧ q.2 = false ∧ tK T t q.1 = 3 => c1 c.1)]
    simp [WB_X1_read_1, m_den, l0, Value.category, s_seq, s_if, s_st, s_ret, s_retz, s_retv, s_skip, s_sc, s_inc, s_call, e_c, e_li, e_lr, e_lj, e_un, e_bin, e_if, e_b, b_not, b_and, b_or, b_of, e_call, a_recv, a_snoc, a_nil, prI, prJ, prR, e_gi, e_gr, e_ai, e_ar, s_as, s_aop, s_pf, s_pfz, s_fop, l_set, l_ok, e_div, e_rem, e_len, s_tab, n120, c1]
/-- a reading out of what its items do: E i relates the memory before item i to f -/
theorem X1_read_of (f : FN) {T : Nat → Nat} {t m N : Nat} {sr : Int32} (hsr : sr = 0 ∨ sr = 1) (E : Nat → FN → Prop) (E' : FN → Prop) (hT : TPX f T t) (em : f 1 2 = nI m) (ht : t ≤ 120) (hN : N ≤ 120) (h1 : ¬ tGo T t m N) (h2 : ∀ i, i < N → tGo T t m i) (hE : ∀ i g g', E i g → (∀ x, x ≠ 78 → g' x = g x) → E i g') (hE' : ∀ g g', E' g → (∀ x, x ≠ 78 → g' x = g x) → E' g') (h0 : ∀ g, (∀ x, x ≠ 77 → x ≠ 78 → g x = f x) → g 77 1 = sr → g 77 2 = nI m → E 0 g) (hs : ∀ i g, i < N → E i g → cuX g T t (tq T t m i).1 false → ∃ g', D_X1_readItem [.ref 77, .ref 1] (memOf g) = some (.null, memOf g') ∧ E (i + 1) g' ∧ cuX g' T t (tI T t m i).1 (tI T t m i).2) (hl : ∀ g, E N g → cuX g T t (tq T t m N).1 false → ∃ g', D_X1_readItem [.ref 77, .ref 1] (memOf g) = some (.null, memOf g') ∧ E' g' ∧ cuX g' T t (tI T t m N).1 (tI T t m N).2) : ∃ g, D_X1_read [.ref 77, .ref 1, .int sr] (memOf f) = some (.int (nI (N + 1)), memOf g) ∧ E' g ∧ cuX g T t (tI T t m N).1 (tB T t m N) := by
  obtain ⟨f1, hf⟩ : ∃ f1, f1 = row f 77 (upd (upd (f 77) 1 sr) 2 (nI m)) := ⟨_, rfl⟩
  have hT1 : TPX f1 T t := by
    rw [hf]
    unfold TPX
    rw [row_ne _ _ (show (78 : Nat) ≠ 77 by omega), row_ne _ _ (show (79 : Nat) ≠ 77 by omega)]
    exact hT
  obtain ⟨f2, R1, R2, R3⟩ := X4_rewind f1 hT1
  have E0 : E 0 f2 := by
    refine h0 f2 (fun x c1 c2 => by rw [R2 x c2, hf, row_ne _ _ c1]) ?_ ?_
    · rw [R2 77 (by omega), hf, row_self, upd_ne _ _ (by omega), upd_self]
    · rw [R2 77 (by omega), hf, row_self, upd_self]
  have body : ∀ (i : Nat) (g g' : FN), D_X1_readItem [.ref 77, .ref 1] (memOf g) = some (.null, memOf g') → WS_X1_read_1 [.ref 77, .ref 1, .int sr, .int (nI i)] (memOf g) = some (.inl ([.ref 77, .ref 1, .int sr, .int (nI (i + 1))], memOf g')) := fun i g g' hg => by
    simp [WS_X1_read_1, m_den, l0, Value.category, s_seq, s_if, s_st, s_ret, s_retz, s_retv, s_skip, s_sc, s_inc, s_call, e_c, e_li, e_lr, e_lj, e_un, e_bin, e_if, e_b, b_not, b_and, b_or, b_of, e_call, a_recv, a_snoc, a_nil, prI, prJ, prR, e_gi, e_gr, e_ai, e_ar, s_as, s_aop, s_pf, s_pfz, s_fop, l_set, l_ok, e_div, e_rem, e_len, s_tab, rc_77, hg, nI_next]
  obtain ⟨g, B1, B2, B3⟩ := do_relc (b := WB_X1_read_1) (s := WS_X1_read_1) (fun i => [.ref 77, .ref 1, .int sr, .int (nI i)]) (fun i g => E i g ∧ cuX g T t (tq T t m i).1 false) (fun i g => (i < N → E (i + 1) g) ∧ (i = N → E' g) ∧ cuX g T t (tI T t m i).1 (tI T t m i).2) (fun g => E' g ∧ cuX g T t (tI T t m N).1 (tI T t m N).2) N (by unfold FU; omega)
    (fun i g hi hI => by
      by_cases c : i = N
      · subst c
        obtain ⟨g', C1, C2, C3⟩ := hl g hI.1 hI.2
        exact ⟨g', body i g g' C1, fun c => absurd c (by omega), fun _ => C2, C3⟩
      · obtain ⟨g', C1, C2, C3⟩ := hs i g (by omega) hI.1 hI.2
        exact ⟨g', body i g g' C1, fun _ => C2, fun d => absurd d c, C3⟩)
    (fun i g hi hJ => by
      obtain ⟨J1, -, J3⟩ := hJ
      have lt := tGo_lt (i := i) (fun j hj => h2 j (by omega))
      obtain ⟨g', C1, C2, C3, -⟩ := rd_sign g (q := tI T t m i) J3 sr (n := i + 1) (by omega)
      have go : i + 1 ≤ 120 ∧ (tI T t m i).2 = false ∧ tK T t (tI T t m i).1 = 3 := ⟨by omega, h2 i hi⟩
      rw [decide_eq_true go] at C1
      exact ⟨g', C1, hE (i + 1) g g' (J1 hi) C2, C3 go⟩)
    (fun g hJ => by
      obtain ⟨-, J2, J3⟩ := hJ
      obtain ⟨g', C1, C2, -, C4⟩ := rd_sign g (q := tI T t m N) J3 sr (n := N + 1) (by omega)
      have go : ¬ (N + 1 ≤ 120 ∧ (tI T t m N).2 = false ∧ tK T t (tI T t m N).1 = 3) := fun c => h1 c.2
      rw [decide_eq_false go] at C1
      exact ⟨g', C1, hE' g g' (J2 rfl) C2, C4 go⟩) (f := f2) ⟨E0, R3⟩
  have z0 : nI 0 = (0 : Int32) := rfl
  have B1' : W_X1_read_1 [.ref 77, .ref 1, .int sr, .int 0] (memOf f2) = some (.inl ([.ref 77, .ref 1, .int sr, .int (nI (N + 1))], memOf g)) := B1
  have em1 : ∀ u, row f 77 u 1 2 = nI m := fun u => by rw [row_ne _ _ (by omega)]; exact em
  rw [hf] at R1
  have k3 : g 78 3 = nI (tK T t (tI T t m N).1) := B3.2.2.1.1
  have hk := (tk_b T B3.1).2.2
  have q0 : (nI (tK T t (tI T t m N).1) = (0 : Int32)) = (tK T t (tI T t m N).1 = 0) := propext (nI_inj (a := tK T t (tI T t m N).1) (b := 0) (by omega) (by omega))
  by_cases c : tK T t (tI T t m N).1 = 0
  · have eB : tB T t m N = (tI T t m N).2 := by unfold tB; rw [decide_eq_false (fun d => d c), Bool.or_false]
    rw [eB]
    refine ⟨g, ?_, B2, B3⟩
    have c' := eq_true c
    rcases hsr with rfl | rfl
    · simp [D_X1_read, S_X1_read, m_den, l0, Value.category, s_seq, s_if, s_st, s_ret, s_retz, s_retv, s_skip, s_sc, s_inc, s_call, e_c, e_li, e_lr, e_lj, e_un, e_bin, e_if, e_b, b_not, b_and, b_or, b_of, e_call, a_recv, a_snoc, a_nil, prI, prJ, prR, e_gi, e_gr, e_ai, e_ar, s_as, s_aop, s_pf, s_pfz, s_fop, l_set, l_ok, e_div, e_rem, e_len, s_tab, p_77_1, g_1_2, em1, p_77_2, row_row, row_self, g_77_0, rc_78, R1, B1', g_78_3, k3, q0, c']
    · simp [D_X1_read, S_X1_read, m_den, l0, Value.category, s_seq, s_if, s_st, s_ret, s_retz, s_retv, s_skip, s_sc, s_inc, s_call, e_c, e_li, e_lr, e_lj, e_un, e_bin, e_if, e_b, b_not, b_and, b_or, b_of, e_call, a_recv, a_snoc, a_nil, prI, prJ, prR, e_gi, e_gr, e_ai, e_ar, s_as, s_aop, s_pf, s_pfz, s_fop, l_set, l_ok, e_div, e_rem, e_len, s_tab, p_77_1, g_1_2, em1, p_77_2, row_row, row_self, g_77_0, rc_78, R1, B1', g_78_3, k3, q0, c']
  · have eB : tB T t m N = true := by unfold tB; rw [decide_eq_true c, Bool.or_true]
    rw [eB]
    obtain ⟨g', D1, D2, D3⟩ := X4_failC g B3
    refine ⟨g', ?_, hE' g g' B2 D2, D3⟩
    rcases hsr with rfl | rfl
    · simp [D_X1_read, S_X1_read, m_den, l0, Value.category, s_seq, s_if, s_st, s_ret, s_retz, s_retv, s_skip, s_sc, s_inc, s_call, e_c, e_li, e_lr, e_lj, e_un, e_bin, e_if, e_b, b_not, b_and, b_or, b_of, e_call, a_recv, a_snoc, a_nil, prI, prJ, prR, e_gi, e_gr, e_ai, e_ar, s_as, s_aop, s_pf, s_pfz, s_fop, l_set, l_ok, e_div, e_rem, e_len, s_tab, p_77_1, g_1_2, em1, p_77_2, row_row, row_self, g_77_0, rc_78, R1, B1', g_78_3, k3, q0, c, D1]
    · simp [D_X1_read, S_X1_read, m_den, l0, Value.category, s_seq, s_if, s_st, s_ret, s_retz, s_retv, s_skip, s_sc, s_inc, s_call, e_c, e_li, e_lr, e_lj, e_un, e_bin, e_if, e_b, b_not, b_and, b_or, b_of, e_call, a_recv, a_snoc, a_nil, prI, prJ, prR, e_gi, e_gr, e_ai, e_ar, s_as, s_aop, s_pf, s_pfz, s_fop, l_set, l_ok, e_div, e_rem, e_len, s_tab, p_77_1, g_1_2, em1, p_77_2, row_row, row_self, g_77_0, rc_78, R1, B1', g_78_3, k3, q0, c, D1]
theorem X1_read0 (f : FN) {T : Nat → Nat} {t m N : Nat} (hT : TPX f T t) (em : f 1 2 = nI m) (hm : m ≤ 8) (ht : t ≤ 120) (hN : N ≤ 120) (h1 : ¬ tGo T t m N) (h2 : ∀ i, i < N → tGo T t m i) : ∃ g, D_X1_read [.ref 77, .ref 1, .int 0] (memOf f) = some (.int (nI (N + 1)), memOf g) ∧ (∀ x, x ≠ 77 → x ≠ 78 → g x = f x) ∧ cuX g T t (tI T t m N).1 (tB T t m N) := by
  refine X1_read_of f (Or.inl rfl) (fun i g => (∀ x, x ≠ 77 → x ≠ 78 → g x = f x) ∧ g 77 1 = 0 ∧ g 77 2 = nI (tq T t m i).2) (fun g => ∀ x, x ≠ 77 → x ≠ 78 → g x = f x) hT em ht hN h1 h2 (fun i g g' h e => ⟨fun x c1 c2 => by rw [e x c2]; exact h.1 x c1 c2, by rw [e 77 (by omega)]; exact h.2.1, by rw [e 77 (by omega)]; exact h.2.2⟩) (fun g g' h e x c1 c2 => by rw [e x c2]; exact h x c1 c2) (fun g e1 e2 e3 => ⟨e1, e2, e3⟩) (fun i g hi hI hc => ?_) (fun g hI hc => ?_)
  · obtain ⟨g', A1, A2, A3, A4, A5⟩ := X1_readItem0 g hc hI.2.1 hI.2.2 (tq_m hm i (fun j hj => h2 j (by omega)))
    exact ⟨g', A1, ⟨fun x c1 c2 => by rw [A2 x c1 c2]; exact hI.1 x c1 c2, A3, A4 (h2 i hi).1⟩, A5⟩
  · obtain ⟨g', A1, A2, A3, A4, A5⟩ := X1_readItem0 g hc hI.2.1 hI.2.2 (tq_m hm N h2)
    exact ⟨g', A1, fun x c1 c2 => by rw [A2 x c1 c2]; exact hI.1 x c1 c2, A5⟩
/-- the town before item i of the second reading -/
noncomputable def tF (T : Nat → Nat) (t m : Nat) (f : FN) : Nat → FN
  | 0 => f
  | i + 1 => efX T t (tq T t m i).1 (tq T t m i).2 (tF T t m f i)
theorem efX_congr {T : Nat → Nat} {t p m : Nat} {F G : FN} (e : ∀ x, x < 39 → G x = F x) (hok : (itX T t p m).2 = false) : ∀ x, x < 39 → efX T t p m G x = efX T t p m F x := fun x hx => by
  unfold efX
  by_cases c1 : wB T t p w_roof = true
  · rw [if_pos c1, if_pos c1]
    by_cases cx : x = 2
    · subst cx; rw [row_self, row_self, e 2 (by omega)]
    · rw [row_ne _ _ cx, row_ne _ _ cx, e x hx]
  · rw [if_neg c1, if_neg c1]
    by_cases c2 : wB T t p w_wind = true
    · rw [if_pos c2, if_pos c2]
      by_cases cx : x = 3
      · subst cx; rw [row_self, row_self, e 3 (by omega)]
      · rw [row_ne _ _ cx, row_ne _ _ cx, e x hx]
    · rw [if_neg c2, if_neg c2]
      rcases itX_told hok with (c | c) | c
      · exact absurd c c1
      · exact absurd c c2
      · exact chX_congr c.2.2.2.1 e _ _ _ _ _ _ _ x hx
theorem efX_m {T : Nat → Nat} {t p m : Nat} {F : FN} (em : F 1 2 = nI m) (hok : (itX T t p m).2 = false) : efX T t p m F 1 2 = nI (itM T t p m) := by
  unfold efX
  by_cases c1 : wB T t p w_roof = true
  · rw [if_pos c1, row_ne _ _ (by omega), itM_roof (Or.inl c1)]; exact em
  · rw [if_neg c1]
    by_cases c2 : wB T t p w_wind = true
    · rw [if_pos c2, row_ne _ _ (by omega), itM_roof (Or.inr c2)]; exact em
    · rw [if_neg c2]
      rcases itX_told hok with (c | c) | c
      · exact absurd c c1
      · exact absurd c c2
      · rw [itM_kd c.2.2.1]
        unfold ceX chX raiX
        rw [row_ne _ _ (by unfold chId; omega), row_self, upd_self]
theorem tF_m {T : Nat → Nat} {t m : Nat} {f : FN} (em : f 1 2 = nI m) : ∀ i, (∀ j, j < i → (tI T t m j).2 = false) → tF T t m f i 1 2 = nI (tq T t m i).2 := fun i => by
  induction i with
  | zero => intro _; exact em
  | succ i ih => intro h; exact efX_m (ih (fun j hj => h j (by omega))) (h i (by omega))
theorem X1_read1 (f : FN) {T : Nat → Nat} {t m N : Nat} (hT : TPX f T t) (em : f 1 2 = nI m) (ht : t ≤ 120) (hN : N ≤ 120) (h1 : ¬ tGo T t m N) (h2 : ∀ i, i < N → tGo T t m i) (hB : tB T t m N = false) : ∃ g, D_X1_read [.ref 77, .ref 1, .int 1] (memOf f) = some (.int (nI (N + 1)), memOf g) ∧ (∀ x, x < 39 → g x = tF T t m f (N + 1) x) ∧ (∀ x, ¬ x < 39 → x ≠ 77 → x ≠ 78 → g x = f x) := by
  have hb : (tI T t m N).2 = false := by
    cases r : (tI T t m N).2 with
    | false => rfl
    | true => unfold tB at hB; rw [r] at hB; exact absurd hB (by simp)
  have ok : ∀ i, i ≤ N → (tI T t m i).2 = false := fun i hi => by
    by_cases c : i = N
    · rw [c]; exact hb
    · exact (h2 i (by omega)).1
  have stp : ∀ (i : Nat) (g : FN), i ≤ N → ((∀ x, x < 39 → g x = tF T t m f i x) ∧ (∀ x, ¬ x < 39 → x ≠ 77 → x ≠ 78 → g x = f x) ∧ g 77 1 = 1 ∧ g 77 2 = nI (tq T t m i).2) → cuX g T t (tq T t m i).1 false → ∃ g', D_X1_readItem [.ref 77, .ref 1] (memOf g) = some (.null, memOf g') ∧ ((∀ x, x < 39 → g' x = tF T t m f (i + 1) x) ∧ (∀ x, ¬ x < 39 → x ≠ 77 → x ≠ 78 → g' x = f x) ∧ g' 77 1 = 1 ∧ g' 77 2 = nI (tq T t m (i + 1)).2) ∧ cuX g' T t (tI T t m i).1 (tI T t m i).2 := fun i g hi hI hc => by
    have eg : g 1 2 = nI (tq T t m i).2 := by rw [hI.1 1 (by omega)]; exact tF_m em i (fun j hj => ok j (by omega))
    obtain ⟨g', A1, A2, A3, A4, A5, A6⟩ := X1_readItem1 g hc hI.2.2.1 hI.2.2.2 eg (ok i hi)
    exact ⟨g', A1, ⟨fun x hx => by rw [A2 x hx]; exact efX_congr hI.1 (ok i hi) x hx, fun x c0 c1 c2 => by rw [A3 x c0 c1 c2]; exact hI.2.1 x c0 c1 c2, A4, A5⟩, A6⟩
  obtain ⟨g, A1, A2, -⟩ := X1_read_of f (sr := 1) (Or.inr rfl) (fun i g => (∀ x, x < 39 → g x = tF T t m f i x) ∧ (∀ x, ¬ x < 39 → x ≠ 77 → x ≠ 78 → g x = f x) ∧ g 77 1 = 1 ∧ g 77 2 = nI (tq T t m i).2) (fun g => (∀ x, x < 39 → g x = tF T t m f (N + 1) x) ∧ (∀ x, ¬ x < 39 → x ≠ 77 → x ≠ 78 → g x = f x)) hT em ht hN h1 h2 (fun i g g' h e => ⟨fun x c => by rw [e x (by omega)]; exact h.1 x c, fun x c0 c1 c2 => by rw [e x c2]; exact h.2.1 x c0 c1 c2, by rw [e 77 (by omega)]; exact h.2.2.1, by rw [e 77 (by omega)]; exact h.2.2.2⟩) (fun g g' h e => ⟨fun x c => by rw [e x (by omega)]; exact h.1 x c, fun x c0 c1 c2 => by rw [e x c2]; exact h.2 x c0 c1 c2⟩) (fun g e1 e2 e3 => ⟨fun x c => e1 x (by omega) (by omega), fun x _ c1 c2 => e1 x c1 c2, e2, e3⟩) (fun i g hi hI hc => stp i g (by omega) hI hc) (fun g hI hc => by
    obtain ⟨g', A1, A2, A3⟩ := stp N g (Nat.le_refl _) hI hc
    exact ⟨g', A1, ⟨A2.1, A2.2.1⟩, A3⟩)
  exact ⟨g, A1, A2.1, A2.2⟩
