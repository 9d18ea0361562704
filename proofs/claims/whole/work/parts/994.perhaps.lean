/-! the parts of a chimney's item that may be left out -/
noncomputable def phP (T : Nat → Nat) (t most : Nat) (b : Bool) (q : Nat × Bool) : Nat × Bool := if b then nm T t most (nd T t true q) else q
theorem X7_perhaps (f : FN) {T : Nat → Nat} {t most : Nat} {q : Nat × Bool} (h : cuR f T t q.1 q.2) (hm : most ≤ 99) (b : Bool) (d : Int32) : ∃ (v : Int32) (g : FN), D_X7_perhaps [.ref 103, .int (b2i b), .int (nI most), .int d] (memOf f) = some (.int v, memOf g) ∧ (∀ x, x ≠ 103 → g x = f x) ∧ (∀ y, ¬ (13 ≤ y ∧ y ≤ 16) → g 103 y = f 103 y) ∧ cuR g T t (phP T t most b q).1 (phP T t most b q).2 ∧ ((phP T t most b q).2 = false → v = if b then nI (nN T t (nd T t true q).1) else d) := by
  cases b with
  | false =>
    refine ⟨d, f, ?_, fun _ _ => rfl, fun _ _ => rfl, h, fun _ => rfl⟩
    simp [D_X7_perhaps, S_X7_perhaps, m_den, l0, Value.category, s_seq, s_if, s_st, s_ret, s_retz, s_retv, s_skip, s_sc, s_inc, s_call, e_c, e_li, e_lr, e_lj, e_un, e_bin, e_if, e_b, b_not, b_and, b_or, b_of, e_call, a_recv, a_snoc, a_nil, prI, prJ, prR, e_gi, e_gr, e_ai, e_ar, s_as, s_aop, s_pf, s_pfz, s_fop, l_set, l_ok, e_div, e_rem, e_len, s_tab, b2i]
  | true =>
    obtain ⟨g0, Z1, Z2, Z3, Z4⟩ := X7_needs' f h true
    obtain ⟨g1, A1, A2, A3, A4, A5⟩ := X7_number' g0 (q := nd T t true q) (most := most) Z4 hm
    have Z1' : D_X7_needs [.ref 103, .int 1] (memOf f) = some (.null, memOf g0) := Z1
    refine ⟨g1 103 15, g1, ?_, fun x hx => by rw [A2 x hx, Z2 x hx], fun y hy => by rw [A3 y hy, Z3 y hy], A4, fun hq => A5 hq⟩
    simp [D_X7_perhaps, S_X7_perhaps, m_den, l0, Value.category, s_seq, s_if, s_st, s_ret, s_retz, s_retv, s_skip, s_sc, s_inc, s_call, e_c, e_li, e_lr, e_lj, e_un, e_bin, e_if, e_b, b_not, b_and, b_or, b_of, e_call, a_recv, a_snoc, a_nil, prI, prJ, prR, e_gi, e_gr, e_ai, e_ar, s_as, s_aop, s_pf, s_pfz, s_fop, l_set, l_ok, e_div, e_rem, e_len, s_tab, b2i, rc_103, Z1', A1, g_103_15]
def optE (j m : Nat) : DE Int32 := e_if (b_of (e_call prI D_X4_passWord 2 (a_recv 4 (a_snoc Value.ref (a_snoc Value.ref a_nil (e_gr 1 0 (e_lr 0))) (e_c (SPB + 100 + j)))))) (e_call prI D_X4_needNumber 2 (a_recv 4 (a_snoc Value.int (a_snoc Value.ref a_nil (e_gr 1 0 (e_lr 0))) (e_ai (e_c (SPB + 0)) (e_c (nI m)))))) (e_c (-1 : Int32))
theorem X4_passWord' (f : FN) {T : Nat → Nat} {t id : Nat} {q : Nat × Bool} {ws : List Nat} (h : cuX f T t q.1 q.2) (hw : isWd id ws) : ∃ (b : Bool) (g : FN), b = (!q.2 && wB T t q.1 ws) ∧ D_X4_passWord [.ref 78, .ref id] (memOf f) = some (.int (b2i b), memOf g) ∧ (∀ x, x ≠ 78 → g x = f x) ∧ (b = true → q.2 = false ∧ cuX g T t (nd T t true q).1 (nd T t true q).2) ∧ (b = false → cuX g T t q.1 q.2) := by
  obtain ⟨g, A1, A2, A3⟩ := X4_passWord f h hw
  refine ⟨_, g, rfl, A1, A2, fun e => ?_, fun e => ?_⟩
  · rw [if_pos e] at A3
    have q2 : q.2 = false := by cases r : q.2 with
      | false => rfl
      | true => rw [r] at e; simp at e
    refine ⟨q2, ?_⟩
    unfold nd
    rw [q2]
    exact A3
  · rw [if_neg (by rw [e]; decide)] at A3
    exact A3
