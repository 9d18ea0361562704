noncomputable def wR (T : Nat → Nat) (t : Nat) (q : Nat × Bool) (a : Nat) (r : Nat → Int32) : Nat → Nat → Int32
  | 0 => r
  | k + 1 => upd (wR T t q a r k) (a + k) (nI (nN T t (wq T t q k).1))
theorem wq_ok {T : Nat → Nat} {t : Nat} {q : Nat × Bool} {n : Nat} (h : (wq T t q n).2 = false) : ∀ i, i ≤ n → (wq T t q i).2 = false := by
  induction n with
  | zero => intro i hi; have : i = 0 := by omega
            subst this; exact h
  | succ n ih =>
    intro i hi
    by_cases c : i = n + 1
    · subst c; exact h
    · exact ih (nd_ok h).1 i (by omega)
theorem X1_readWind1 (f : FN) {T : Nat → Nat} {t K : Nat} {q : Nat × Bool} (h : cuX f T t q.1 q.2) (hs : f 77 1 = b2i true) (K1 : K ≤ 24) (K2 : wdStop T t (nm T t 23 q) (nN T t q.1) K) (K3 : ∀ i, i < K → ¬ wdStop T t (nm T t 23 q) (nN T t q.1) i) (hok : (wq T t (nm T t 23 q) (K + 1)).2 = false) : ∃ g, D_X1_readWind [.ref 77, .ref 1] (memOf f) = some (.null, memOf g) ∧ (∀ x, x ≠ 78 → g x = row f 3 (wR T t (nm T t 23 q) (nN T t q.1) (f 3) (K + 1)) x) ∧ cuX g T t (wq T t (nm T t 23 q) (K + 1)).1 (wq T t (nm T t 23 q) (K + 1)).2 := by
  have ok := wq_ok hok
  obtain ⟨a, g1, A1, A2, A3, A4, A5⟩ := X4_needNumber' f (most := 23) h (by omega)
  have ea := A5 (ok 0 (by omega))
  subst ea
  have A1' : D_X4_needNumber [.ref 78, .int 23] (memOf f) = some (.int (nI (nN T t q.1)), memOf g1) := A1
  generalize nN T t q.1 = a at *
  have ak : ∀ i, i ≤ K → a + i < 24 := fun i hi => by
    rcases Nat.eq_zero_or_pos i with r | r
    · omega
    · have := Classical.byContradiction fun c => K3 (i - 1) (by omega) c
      have e : i - 1 + 1 = i := by omega
      rw [e] at this
      exact this.1
  obtain ⟨g, B1, B2, B3⟩ := do_relc (b := WB_X1_readWind_1) (s := WS_X1_readWind_1) (fun i => [.ref 77, .ref 1, .int (nI (a + i))]) (fun i g => (∀ x, x ≠ 78 → g x = row f 3 (wR T t (nm T t 23 q) a (f 3) i) x) ∧ cuX g T t (wq T t (nm T t 23 q) i).1 (wq T t (nm T t 23 q) i).2) (fun i g => (∀ x, x ≠ 78 → g x = row f 3 (wR T t (nm T t 23 q) a (f 3) (i + 1)) x) ∧ cuX g T t (wq T t (nm T t 23 q) (i + 1)).1 (wq T t (nm T t 23 q) (i + 1)).2) (fun g => (∀ x, x ≠ 78 → g x = row f 3 (wR T t (nm T t 23 q) a (f 3) (K + 1)) x) ∧ cuX g T t (wq T t (nm T t 23 q) (K + 1)).1 (wq T t (nm T t 23 q) (K + 1)).2) K (by unfold FU; omega)
    (fun i g hi hI => by
      obtain ⟨v, g', C1, C2, C3, -, C5⟩ := readWind_step g hI.2 (n := a + i) (ak i hi) true (by rw [hI.1 77 (by omega), row_ne _ _ (by omega)]; exact hs)
      have ev := C5 (ok (i + 1) (by omega))
      subst ev
      refine ⟨g', C1, fun x hx => ?_, C3⟩
      rw [C2 x hx]
      simp only [if_true]
      by_cases c : x = 3
      · subst c; rw [row_self, row_self, hI.1 3 (by omega), row_self]; rfl
      · rw [row_ne _ _ c, row_ne _ _ c, hI.1 x hx, row_ne _ _ c])
    (fun i g hi hJ => by
      refine ⟨g, ?_, hJ⟩
      have c := Classical.byContradiction fun c => K3 i hi c
      have := readWind_cond g hJ.2 (n := a + (i + 1)) (by omega)
      rw [decide_eq_true c] at this
      exact this)
    (fun g hJ => by
      refine ⟨g, ?_, hJ⟩
      have := readWind_cond g hJ.2 (n := a + (K + 1)) (by omega)
      rw [decide_eq_false K2] at this
      exact this) (f := g1) ⟨fun x hx => by
        rw [A2 x hx]
        by_cases c : x = 3
        · subst c; rw [row_self]; rfl
        · rw [row_ne _ _ c], A3⟩
  have B1' : W_X1_readWind_1 [.ref 77, .ref 1, .int (nI a)] (memOf g1) = some (.inl ([.ref 77, .ref 1, .int (nI (a + (K + 1)))], memOf g)) := B1
  refine ⟨g, ?_, B2, B3⟩
  simp [D_X1_readWind, S_X1_readWind, m_den, l0, Value.category, s_seq, s_if, s_st, s_ret, s_retz, s_retv, s_skip, s_sc, s_inc, s_call, e_c, e_li, e_lr, e_lj, e_un, e_bin, e_if, e_b, b_not, b_and, b_or, b_of, e_call, a_recv, a_snoc, a_nil, prI, prJ, prR, e_gi, e_gr, e_ai, e_ar, s_as, s_aop, s_pf, s_pfz, s_fop, l_set, l_ok, e_div, e_rem, e_len, s_tab, g_77_0, rc_78, A1', B1']
