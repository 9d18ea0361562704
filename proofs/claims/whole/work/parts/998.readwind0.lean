/-- the first reading of a wind item: K of wd_ex, the cursor behind K + 1 numbers -/
theorem X1_readWind0 (f : FN) {T : Nat → Nat} {t : Nat} {q : Nat × Bool} (h : cuX f T t q.1 q.2) (hs : f 77 1 = b2i false) : ∃ (a K : Nat) (g : FN), D_X1_readWind [.ref 77, .ref 1] (memOf f) = some (.null, memOf g) ∧ (∀ x, x ≠ 78 → g x = f x) ∧ a ≤ 23 ∧ ((nm T t 23 q).2 = false → a = nN T t q.1) ∧ wdStop T t (nm T t 23 q) a K ∧ (∀ i, i < K → ¬ wdStop T t (nm T t 23 q) a i) ∧ cuX g T t (wq T t (nm T t 23 q) (K + 1)).1 (wq T t (nm T t 23 q) (K + 1)).2 := by
  obtain ⟨a, g1, A1, A2, A3, A4, A5⟩ := X4_needNumber' f (most := 23) h (by omega)
  have A1' : D_X4_needNumber [.ref 78, .int 23] (memOf f) = some (.int (nI a), memOf g1) := A1
  obtain ⟨K, K1, K2, K3⟩ := wd_ex T t (nm T t 23 q) a
  have ak : ∀ i, i ≤ K → a + i < 24 := fun i hi => by
    rcases Nat.eq_zero_or_pos i with r | r
    · omega
    · have := Classical.byContradiction fun c => K3 (i - 1) (by omega) c
      have e : i - 1 + 1 = i := by omega
      rw [e] at this
      exact this.1
  obtain ⟨g, B1, B2, B3⟩ := do_relc (b := WB_X1_readWind_1) (s := WS_X1_readWind_1) (fun i => [.ref 77, .ref 1, .int (nI (a + i))]) (fun i g => (∀ x, x ≠ 78 → g x = f x) ∧ cuX g T t (wq T t (nm T t 23 q) i).1 (wq T t (nm T t 23 q) i).2) (fun i g => (∀ x, x ≠ 78 → g x = f x) ∧ cuX g T t (wq T t (nm T t 23 q) (i + 1)).1 (wq T t (nm T t 23 q) (i + 1)).2) (fun g => (∀ x, x ≠ 78 → g x = f x) ∧ cuX g T t (wq T t (nm T t 23 q) (K + 1)).1 (wq T t (nm T t 23 q) (K + 1)).2) K (by unfold FU; omega)
    (fun i g hi hI => by
      obtain ⟨v, g', C1, C2, C3, -, -⟩ := readWind_step g hI.2 (n := a + i) (ak i hi) false (by rw [hI.1 77 (by omega)]; exact hs)
      exact ⟨g', C1, fun x hx => by rw [C2 x hx]; exact hI.1 x hx, C3⟩)
    (fun i g hi hJ => by
      refine ⟨g, ?_, hJ⟩
      have c := Classical.byContradiction fun c => K3 i hi c
      have := readWind_cond g hJ.2 (n := a + (i + 1)) (by omega)
      rw [decide_eq_true c] at this
      exact this)
    (fun g hJ => by
      refine ⟨g, ?_, hJ⟩
      have := readWind_cond g hJ.2 (n := a + (K + 1)) (by omega)
      rw [decide_eq_false K2] at this
      exact this) (f := g1) ⟨A2, A3⟩
  have B1' : W_X1_readWind_1 [.ref 77, .ref 1, .int (nI a)] (memOf g1) = some (.inl ([.ref 77, .ref 1, .int (nI (a + (K + 1)))], memOf g)) := B1
  refine ⟨a, K, g, ?_, B2, A4, A5, K2, K3, B3⟩
  simp [D_X1_readWind, S_X1_readWind, m_den, l0, Value.category, s_seq, s_if, s_st, s_ret, s_retz, s_retv, s_skip, s_sc, s_inc, s_call, e_c, e_li, e_lr, e_lj, e_un, e_bin, e_if, e_b, b_not, b_and, b_or, b_of, e_call, a_recv, a_snoc, a_nil, prI, prJ, prR, e_gi, e_gr, e_ai, e_ar, s_as, s_aop, s_pf, s_pfz, s_fop, l_set, l_ok, e_div, e_rem, e_len, s_tab, g_77_0, rc_78, A1', B1']
